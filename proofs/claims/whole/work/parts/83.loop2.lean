/-! The law's census, mean and digest -/
theorem lF1_c : ∀ k, k < 19 → narrow .char (.int (oCh (lF1 k))) = .int (oCh (lF1 k)) := by decide +kernel
theorem lF2_c : ∀ k, k < 16 → narrow .char (.int (oCh (lF2 k))) = .int (oCh (lF2 k)) := by decide +kernel
theorem lF1_b : ∀ k, k < 19 → (oCh (lF1 k)).toInt8.toInt32 = oCh (lF1 k) := by decide +kernel
theorem lF2_b : ∀ k, k < 16 → (oCh (lF2 k)).toInt8.toInt32 = oCh (lF2 k) := by decide +kernel
theorem lF3_f : bfit lF3 1 := fun j hj => by
  rcases (show j = 0 by omega) with rfl
  decide +kernel
set_option maxHeartbeats 16000000 in
set_option maxRecDepth 100000 in
theorem law_c1200 {p : Program} {l : Launch} {e : Env} {s : State} {m : MethodId} {below : List Frame} {meth : Method} {c : Code} (hst : l.stackTraces = false) {D : va_G} {kl : Nat → ClassId} {a1 v1 a2 v2 a3 v3 a4 v4 a5 v5 t1 t2 b L b0 : Nat} {xs : Nat → Int32} (hL : L ≤ 2048) (C0 : lw_At p s m meth c b L xs) (hE9 : lwE D kl s a1 v1 a2 v2 a3 v3 a4 v4 a5 v5 t1 t2) (hb0 : b0 = s.heap.size) {k : Nat} (hk4 : 4 * k + 4 ≤ L)
    (nx : lNx p l e s m below meth c D kl b b0 k) {α β γ τ σ δ : oT} {nS nO nH : Nat} {f : Nat → Int64} {H : Heap} {locs : List Loc} (hT : rT α β γ τ δ nS nO nH) (hH : nH ≤ 100 * k) (hPc : va_P D vwCl (cw (D, ga b0, kl) (z3 α β γ)) H) (hPm : va_P D vwCl (mw (D, ga (b0 + 137), kl) (z3 τ σ δ)) H) (hPo : va_P D vwCl (lw1 (D, ga b0, kl) (b0 + 176) f) H) (hS : va_S (sFrom b0) s.heap H locs) (hz : b0 + 177 ≤ H.size) {ls : Array Slot} (hl : lv_has ls 9 [(0, .ref b), (1, .ref (ga b0 0)), (2, .ref (ga (b0 + 137) 0)), (3, .ref (b0 + 176)), (4, .int (nI (4 * k)))]) : W p l e room_1 s m #[Value.ref b] below meth c H locs (177 + 100 * k) (3360 + 1100 * k) (lw_Z below #[Value.ref b] s) (F0 m 1200 ls []) := by
  obtain ⟨hx, hb, hr, hml, hown, htb, hX, hbl, hlocks, hgv⟩ := C0
  have hts : ∀ w ∈ wsL_law, w.before #[Value.ref b] s = true := fun w hw => htb w (wsL_law_in w hw)
  have hbA : ¬ sFrom b0 b := fun q => by simp only [sFrom] at q; omega
  have hq : ∀ a : Nat, a < s.heap.size → H[a]? = s.heap[a]? := fun a ha => hS.2.1 a ha (fun q => by simp only [sFrom] at q; omega)
  have hIc : wl_I (ga b0) 137 := ga_I _ _
  have hIm : wl_I (ga (b0 + 137)) 39 := ga_I _ _
  have e0 : (0 : Int32).toNatClampNeg = 0 := by decide
  have i1 : vp_in (nI (4 * k) + 1) L := by rw [nI_1]; exact vp_in_nI (by omega) (by omega)
  have i2 : vp_in (nI (4 * k) + 2) L := by rw [show nI (4 * k) + 2 = nI (4 * k + 2) from nI_add _ 2]; exact vp_in_nI (by omega) (by omega)
  have i3 : vp_in (nI (4 * k) + 3) L := by rw [show nI (4 * k) + 3 = nI (4 * k + 3) from nI_add _ 3]; exact vp_in_nI (by omega) (by omega)
  obtain ⟨x1, hx1⟩ : ∃ x, x = xs (nI (4 * k) + 1).toNatClampNeg := ⟨_, rfl⟩
  obtain ⟨x2, hx2⟩ : ∃ x, x = xs (nI (4 * k) + 2).toNatClampNeg := ⟨_, rfl⟩
  obtain ⟨x3, hx3⟩ : ∃ x, x = xs (nI (4 * k) + 3).toNatClampNeg := ⟨_, rfl⟩
  have hn := hT.nums (by omega)
  obtain ⟨g9, eg⟩ : ∃ g9, g9 = kCenO α (pW (kText (kCenS α (pW (kText (su γ 0 0 0 0) lF1 19) 10) nO nS) lF2 16) 10) nO := ⟨_, rfl⟩
  obtain ⟨E9, eE⟩ : ∃ E9, E9 = mCO τ lF3 (mWrT (mCS τ lF3 nO (mWrT (su (su δ 41 0 0 0) 41 0 1 0) 0 19 lF1, 20) nS).1 (mCS τ lF3 nO (mWrT (su (su δ 41 0 0 0) 41 0 1 0) 0 19 lF1, 20) nS).2 16 lF2, (mCS τ lF3 nO (mWrT (su (su δ 41 0 0 0) 41 0 1 0) 0 19 lF1, 20) nS).2 + 17) nO := ⟨_, rfl⟩
  have hR := hT.census (t := lF3) (by decide +kernel) lF1_b lF2_b eg eE
  have hM1 := m_X4_census l (D, ga b0, kl) hIc α β γ nS nO nH hT.1 a1 v1 lF1 lF1_c a2 v2 lF2 lF2_c hn.1 hn.2.1
  have hM2 := m_X6_census l (D, ga (b0 + 137), kl) hIm τ σ δ H.size nS nO nH hT.q hn.2.2.1 hn.2.2.2 a3 v3 lF1 a4 v4 lF2 a5 v5 lF3 t1 t2 lF3_f
  rw [← eg] at hM1
  rw [← eE] at hM2
  refine lv_aload_n hx hb dL_law_1200 rfl (lv_at hl 1 rfl) ?_
  refine o_call (va_runV (As := []) (rest := []) (b := ga b0 0) ⟨hx, hb, hml, hown, hts⟩ hM1 (cwV 0 hts gL_law_X4_census rfl rfl rfl (by decide +kernel) ⟨(Nat.le_of_ble_eq_true rfl), (Nat.le_of_ble_eq_true rfl)⟩) ⟨lC_blind, va_recv (hE9.K (ga b0)) hPc (ci := 6) (q0 := 0) rfl (cx_C (D, ga b0, kl) _), lC_pre hE9 hb0 hPc hq⟩ rfl rfl hl.1 rfl (lv_room (Nat.le_of_ble_eq_true rfl)) dL_law_1201 ⟨(show 177 + 100 * k + 0 ≤ 846345 by omega), (show 3360 + 1100 * k + 0 ≤ 6557069 by omega)⟩) hS (fun q _ h => sub_A q h) sub_A (fun H1 locs1 hPc1 hz1 hk1 hS1 => ?_)
  have hPm1 := kp_m2 hPm hk1
  have hPo1 := kp_o2 hPo hk1
  have hq1 : ∀ a : Nat, a < s.heap.size → H1[a]? = s.heap[a]? := fun a ha => hS1.2.1 a ha (fun q => by simp only [sFrom] at q; omega)
  have hM2 := m_X6_census l (D, ga (b0 + 137), kl) hIm τ σ δ H1.size nS nO nH hT.q hn.2.2.1 hn.2.2.2 a3 v3 lF1 a4 v4 lF2 a5 v5 lF3 t1 t2 lF3_f
  rw [← eE] at hM2
  change W _ _ _ _ _ _ _ _ _ _ _ _ _ _ _ (F0 m 1204 ls [.int (g9 0 0 0)])
  refine lv_aload_n hx hb dL_law_1204 rfl (lv_at hl 2 rfl) ?_
  refine o_call (va_runV (As := []) (rest := [.int (g9 0 0 0)]) (b := ga (b0 + 137) 0) ⟨hx, hb, hml, hown, hts⟩ hM2 (cwV 0 hts gL_law_X6_census rfl rfl rfl (by decide +kernel) ⟨(Nat.le_of_ble_eq_true rfl), (Nat.le_of_ble_eq_true rfl)⟩) ⟨lM_blind, va_recv (hE9.K (ga (b0 + 137))) hPm1 (ci := 8) (q0 := 0) rfl (mw_M (D, ga (b0 + 137), kl) _), lM_pre hE9 hb0 hPm1 rfl (by omega) hq1⟩ rfl rfl hl.1 rfl (lv_room (Nat.le_of_ble_eq_true rfl)) dL_law_1205 ⟨(show 177 + 100 * k + 0 + 56 ≤ 846345 by omega), (show 3360 + 1100 * k + 0 + 560 ≤ 6557069 by omega)⟩) hS1 (fun q _ h => sub_N (sz := H1.size) (by omega) q h) (sub_N (sz := H1.size) (by omega)) (fun H2 locs2 hPm2 hz2 hk2 hS2 => ?_)
  have hPc2 := kp_c (sz := H1.size) (by omega) hPc1 hk2
  have hPo2 := kp_o (sz := H1.size) (by omega) hPo1 hk2
  change W _ _ _ _ _ _ _ _ _ _ _ _ _ _ _ (F0 m 1208 ls [.int (nI E9.2), .int (g9 0 0 0)])
  refine lv_icmp_eq (tgt := 1324) hx hb dL_law_1208 (by decide) (fun c7 => ?_) (fun c7 => absurd hR.2 c7)
  exact o_widen (k := 177 + 100 * (k + 1)) (n := 3360 + 1100 * (k + 1)) (by omega) (by omega) (nx _ _ _ _ _ _ _ _ _ _ _ _ hR.1 (by omega) hPc2 hPm2 hPo2 hS2 (by omega) ls hl)
set_option maxHeartbeats 16000000 in
set_option maxRecDepth 100000 in
theorem law_c1269 {p : Program} {l : Launch} {e : Env} {s : State} {m : MethodId} {below : List Frame} {meth : Method} {c : Code} (hst : l.stackTraces = false) {D : va_G} {kl : Nat → ClassId} {a1 v1 a2 v2 a3 v3 a4 v4 a5 v5 t1 t2 b L b0 : Nat} {xs : Nat → Int32} (hL : L ≤ 2048) (C0 : lw_At p s m meth c b L xs) (hE9 : lwE D kl s a1 v1 a2 v2 a3 v3 a4 v4 a5 v5 t1 t2) (hb0 : b0 = s.heap.size) {k : Nat} (hk4 : 4 * k + 4 ≤ L)
    (nx : lNx p l e s m below meth c D kl b b0 k) {α β γ τ σ δ : oT} {nS nO nH : Nat} {f : Nat → Int64} {H : Heap} {locs : List Loc} (hT : rT α β γ τ δ nS nO nH) (hH : nH ≤ 100 * k) (hPc : va_P D vwCl (cw (D, ga b0, kl) (z3 α β γ)) H) (hPm : va_P D vwCl (mw (D, ga (b0 + 137), kl) (z3 τ σ δ)) H) (hPo : va_P D vwCl (lw1 (D, ga b0, kl) (b0 + 176) f) H) (hS : va_S (sFrom b0) s.heap H locs) (hz : b0 + 177 ≤ H.size) {ls : Array Slot} (hl : lv_has ls 9 [(0, .ref b), (1, .ref (ga b0 0)), (2, .ref (ga (b0 + 137) 0)), (3, .ref (b0 + 176)), (4, .int (nI (4 * k)))]) : W p l e room_1 s m #[Value.ref b] below meth c H locs (177 + 100 * k) (3360 + 1100 * k) (lw_Z below #[Value.ref b] s) (F0 m 1269 ls []) := by
  obtain ⟨hx, hb, hr, hml, hown, htb, hX, hbl, hlocks, hgv⟩ := C0
  have hts : ∀ w ∈ wsL_law, w.before #[Value.ref b] s = true := fun w hw => htb w (wsL_law_in w hw)
  have hbA : ¬ sFrom b0 b := fun q => by simp only [sFrom] at q; omega
  have hq : ∀ a : Nat, a < s.heap.size → H[a]? = s.heap[a]? := fun a ha => hS.2.1 a ha (fun q => by simp only [sFrom] at q; omega)
  have hIc : wl_I (ga b0) 137 := ga_I _ _
  have hIm : wl_I (ga (b0 + 137)) 39 := ga_I _ _
  have e0 : (0 : Int32).toNatClampNeg = 0 := by decide
  have i1 : vp_in (nI (4 * k) + 1) L := by rw [nI_1]; exact vp_in_nI (by omega) (by omega)
  have i2 : vp_in (nI (4 * k) + 2) L := by rw [show nI (4 * k) + 2 = nI (4 * k + 2) from nI_add _ 2]; exact vp_in_nI (by omega) (by omega)
  have i3 : vp_in (nI (4 * k) + 3) L := by rw [show nI (4 * k) + 3 = nI (4 * k + 3) from nI_add _ 3]; exact vp_in_nI (by omega) (by omega)
  obtain ⟨x1, hx1⟩ : ∃ x, x = xs (nI (4 * k) + 1).toNatClampNeg := ⟨_, rfl⟩
  obtain ⟨x2, hx2⟩ : ∃ x, x = xs (nI (4 * k) + 2).toNatClampNeg := ⟨_, rfl⟩
  obtain ⟨x3, hx3⟩ : ∃ x, x = xs (nI (4 * k) + 3).toNatClampNeg := ⟨_, rfl⟩
  obtain ⟨M9, eM⟩ : ∃ M9, M9 = oMean (oCoinsA α nO) nO := ⟨_, rfl⟩
  have hM1 := m_X4_mean l (D, ga b0, kl) α β γ nS nO nH hT.1
  have hM2 := m_X6_mean l (D, ga (b0 + 137), kl) hIm τ σ δ nS nO nH hT.q
  rw [← eM] at hM1
  rw [← hT.mean, ← eM] at hM2
  refine lv_aload_n hx hb dL_law_1269 rfl (lv_at hl 1 rfl) ?_
  refine o_cV (q0 := 0) (ci := 6) (G := (D, ga b0, kl)) [] [] ⟨hx, hb, hml, hown, hts⟩ hM1 (cwV 0 hts gL_law_X4_mean rfl rfl rfl (by decide +kernel) ⟨(Nat.le_of_ble_eq_true rfl), (Nat.le_of_ble_eq_true rfl)⟩) (hE9.K (ga b0)) hE9.N hPc rfl rfl (cx_C (D, ga b0, kl) _) rfl hl.1 rfl (Nat.le_of_ble_eq_true rfl) dL_law_1270 ⟨(show 177 + 100 * k ≤ 846345 by omega), (show 3360 + 1100 * k ≤ 6557069 by omega)⟩ ?_
  change W _ _ _ _ _ _ _ _ _ _ _ _ _ _ _ (F0 m 1273 ls [.double M9])
  refine lv_dstore (lv' := [(5, .double M9), (0, .ref b), (1, .ref (ga b0 0)), (2, .ref (ga (b0 + 137) 0)), (3, .ref (b0 + 176)), (4, .int (nI (4 * k)))]) hx hb dL_law_1273 hl (by decide) rfl (fun ls hl => ?_)
  refine lv_aload_n hx hb dL_law_1275 rfl (lv_at hl 3 rfl) ?_
  refine o_call (va_runV (As := []) (rest := []) (b := ga (b0 + 137) 0) ⟨hx, hb, hml, hown, hts⟩ hM2 (cwV 0 hts gL_law_X6_mean rfl rfl rfl (by decide +kernel) ⟨(Nat.le_of_ble_eq_true rfl), (Nat.le_of_ble_eq_true rfl)⟩) ⟨o_blind, va_recv (hE9.K (ga (b0 + 137))) hPm (ci := 8) (q0 := 0) rfl (mw_M (D, ga (b0 + 137), kl) _), o_pre hPm (hE9.K _) hE9.N⟩ rfl rfl hl.1 rfl (lv_room (Nat.le_of_ble_eq_true rfl)) dL_law_1276 ⟨(show 177 + 100 * k + 0 ≤ 846345 by omega), (show 3360 + 1100 * k + 0 ≤ 6557069 by omega)⟩) hS (fun q _ h => sub_M q h) sub_M (fun H2 locs2 hPm2 hz2 hk2 hS2 => ?_)
  have hPc2 := kp_c (Nat.le_refl (b0 + 177)) hPc (kp_AN hk2)
  have hPo2 := kp_o (Nat.le_refl (b0 + 177)) hPo (kp_AN hk2)
  change W _ _ _ _ _ _ _ _ _ _ _ _ _ _ _ (F0 m 1279 ls [.double M9])
  refine lv_dstore (lv' := [(7, .double M9), (5, .double M9), (0, .ref b), (1, .ref (ga b0 0)), (2, .ref (ga (b0 + 137) 0)), (3, .ref (b0 + 176)), (4, .int (nI (4 * k)))]) hx hb dL_law_1279 hl (by decide) rfl (fun ls hl => ?_)
  have fin : W p l e room_1 s m #[Value.ref b] below meth c H2 locs2 (177 + 100 * k + 0) (3360 + 1100 * k + 0) (lw_Z below #[Value.ref b] s) (F0 m 1307 ls []) := by
    refine lv_goto (tgt := 1324) hx hb dL_law_1307 (by decide) ?_
    exact o_widen (k := 177 + 100 * (k + 1)) (n := 3360 + 1100 * (k + 1)) (by omega) (by omega) (nx _ _ _ _ _ _ _ _ _ _ _ _ (rT_mT hT _) (by omega) hPc2 hPm2 hPo2 hS2 (by omega) ls (lv_sub hl [2, 3, 4, 5, 6] rfl))
  refine lv_dload hx hb dL_law_1281 (lv_at hl 1 rfl) ?_
  refine lv_dload hx hb dL_law_1283 (lv_at hl 0 rfl) ?_
  refine lv_dcmp hx hb dL_law_1285 ?_
  refine lv_if_eq (tgt := 1307) hx hb dL_law_1286 (by decide) (fun _ => fin) (fun c7 => ?_)
  refine lv_dload hx hb dL_law_1289 (lv_at hl 1 rfl) ?_
  refine lv_dload hx hb dL_law_1291 (lv_at hl 1 rfl) ?_
  refine lv_dcmp hx hb dL_law_1293 ?_
  refine lv_if_eq (tgt := 1305) hx hb dL_law_1294 (by decide) (fun c8 => absurd c8 c7) (fun c8 => ?_)
  refine lv_dload hx hb dL_law_1297 (lv_at hl 0 rfl) ?_
  refine lv_dload hx hb dL_law_1299 (lv_at hl 0 rfl) ?_
  refine lv_dcmp hx hb dL_law_1301 ?_
  exact lv_if_ne (tgt := 1307) hx hb dL_law_1302 (by decide) (fun _ => fin) (fun c9 => absurd (Decidable.not_not.mp (by first | exact fun q => q c9 | exact fun q => c9 q)) c7)
set_option maxHeartbeats 16000000 in
set_option maxRecDepth 100000 in
theorem law_c1310 {p : Program} {l : Launch} {e : Env} {s : State} {m : MethodId} {below : List Frame} {meth : Method} {c : Code} (hst : l.stackTraces = false) {D : va_G} {kl : Nat → ClassId} {a1 v1 a2 v2 a3 v3 a4 v4 a5 v5 t1 t2 b L b0 : Nat} {xs : Nat → Int32} (hL : L ≤ 2048) (C0 : lw_At p s m meth c b L xs) (hE9 : lwE D kl s a1 v1 a2 v2 a3 v3 a4 v4 a5 v5 t1 t2) (hb0 : b0 = s.heap.size) {k : Nat} (hk4 : 4 * k + 4 ≤ L)
    (nx : lNx p l e s m below meth c D kl b b0 k) {α β γ τ σ δ : oT} {nS nO nH : Nat} {f : Nat → Int64} {H : Heap} {locs : List Loc} (hT : rT α β γ τ δ nS nO nH) (hH : nH ≤ 100 * k) (hPc : va_P D vwCl (cw (D, ga b0, kl) (z3 α β γ)) H) (hPm : va_P D vwCl (mw (D, ga (b0 + 137), kl) (z3 τ σ δ)) H) (hPo : va_P D vwCl (lw1 (D, ga b0, kl) (b0 + 176) f) H) (hS : va_S (sFrom b0) s.heap H locs) (hz : b0 + 177 ≤ H.size) {ls : Array Slot} (hl : lv_has ls 9 [(0, .ref b), (1, .ref (ga b0 0)), (2, .ref (ga (b0 + 137) 0)), (3, .ref (b0 + 176)), (4, .int (nI (4 * k)))]) : W p l e room_1 s m #[Value.ref b] below meth c H locs (177 + 100 * k) (3360 + 1100 * k) (lw_Z below #[Value.ref b] s) (F0 m 1310 ls []) := by
  obtain ⟨hx, hb, hr, hml, hown, htb, hX, hbl, hlocks, hgv⟩ := C0
  have hts : ∀ w ∈ wsL_law, w.before #[Value.ref b] s = true := fun w hw => htb w (wsL_law_in w hw)
  have hbA : ¬ sFrom b0 b := fun q => by simp only [sFrom] at q; omega
  have hq : ∀ a : Nat, a < s.heap.size → H[a]? = s.heap[a]? := fun a ha => hS.2.1 a ha (fun q => by simp only [sFrom] at q; omega)
  have hIc : wl_I (ga b0) 137 := ga_I _ _
  have hIm : wl_I (ga (b0 + 137)) 39 := ga_I _ _
  have e0 : (0 : Int32).toNatClampNeg = 0 := by decide
  have i1 : vp_in (nI (4 * k) + 1) L := by rw [nI_1]; exact vp_in_nI (by omega) (by omega)
  have i2 : vp_in (nI (4 * k) + 2) L := by rw [show nI (4 * k) + 2 = nI (4 * k + 2) from nI_add _ 2]; exact vp_in_nI (by omega) (by omega)
  have i3 : vp_in (nI (4 * k) + 3) L := by rw [show nI (4 * k) + 3 = nI (4 * k + 3) from nI_add _ 3]; exact vp_in_nI (by omega) (by omega)
  obtain ⟨x1, hx1⟩ : ∃ x, x = xs (nI (4 * k) + 1).toNatClampNeg := ⟨_, rfl⟩
  obtain ⟨x2, hx2⟩ : ∃ x, x = xs (nI (4 * k) + 2).toNatClampNeg := ⟨_, rfl⟩
  obtain ⟨x3, hx3⟩ : ∃ x, x = xs (nI (4 * k) + 3).toNatClampNeg := ⟨_, rfl⟩
  obtain ⟨M9, eM⟩ : ∃ M9, M9 = kDig α γ nS nO nH := ⟨_, rfl⟩
  have hM1 := m_X4_digest l (D, ga b0, kl) α β γ nS nO nH hT.1 hT.2.2.1.1
  have hM2 := m_X6_digest l (D, ga (b0 + 137), kl) hIm τ σ δ H.size nS nO nH hT.q (oN (γ 0 0 0)) hT.nP.1 (by have := hT.nP.2; omega)
  rw [← eM] at hM1
  rw [← hT.dig, ← eM] at hM2
  refine lv_aload_n hx hb dL_law_1310 rfl (lv_at hl 1 rfl) ?_
  refine o_cV (q0 := 0) (ci := 6) (G := (D, ga b0, kl)) [] [] ⟨hx, hb, hml, hown, hts⟩ hM1 (cwV 0 hts gL_law_X4_digest rfl rfl rfl (by decide +kernel) ⟨(Nat.le_of_ble_eq_true rfl), (Nat.le_of_ble_eq_true rfl)⟩) (hE9.K (ga b0)) hE9.N hPc rfl rfl (cx_C (D, ga b0, kl) _) rfl hl.1 rfl (Nat.le_of_ble_eq_true rfl) dL_law_1311 ⟨(show 177 + 100 * k ≤ 846345 by omega), (show 3360 + 1100 * k ≤ 6557069 by omega)⟩ ?_
  change W _ _ _ _ _ _ _ _ _ _ _ _ _ _ _ (F0 m 1314 ls [.long M9])
  refine lv_aload_n hx hb dL_law_1314 rfl (lv_at hl 2 rfl) ?_
  refine o_call (va_runV (As := []) (rest := [.long M9]) (b := ga (b0 + 137) 0) ⟨hx, hb, hml, hown, hts⟩ hM2 (cwV 0 hts gL_law_X6_digest rfl rfl rfl (by decide +kernel) ⟨(Nat.le_of_ble_eq_true rfl), (Nat.le_of_ble_eq_true rfl)⟩) ⟨oN_blind, va_recv (hE9.K (ga (b0 + 137))) hPm (ci := 8) (q0 := 0) rfl (mw_M (D, ga (b0 + 137), kl) _), oN_pre hPm (hE9.K _) hE9.N (Nat.le_refl _)⟩ rfl rfl hl.1 rfl (lv_room (Nat.le_of_ble_eq_true rfl)) dL_law_1315 ⟨(show 177 + 100 * k + 96 ≤ 846345 by omega), (show 3360 + 1100 * k + 1032 ≤ 6557069 by omega)⟩) hS (fun q _ h => sub_N (sz := H.size) (by omega) q h) (sub_N (sz := H.size) (by omega)) (fun H2 locs2 hPm2 hz2 hk2 hS2 => ?_)
  have hPc2 := kp_c (sz := H.size) (by omega) hPc hk2
  have hPo2 := kp_o (sz := H.size) (by omega) hPo hk2
  change W _ _ _ _ _ _ _ _ _ _ _ _ _ _ _ (F0 m 1318 ls [.long M9, .long M9])
  refine o_lcmp_eq hx hb dL_law_1318 rfl ?_
  refine lv_if_eq (tgt := 1324) hx hb dL_law_1319 (by decide) (fun c7 => ?_) (fun c7 => absurd rfl c7)
  exact o_widen (k := 177 + 100 * (k + 1)) (n := 3360 + 1100 * (k + 1)) (by omega) (by omega) (nx _ _ _ _ _ _ _ _ _ _ _ _ (rT_su hT _) (by omega) hPc2 hPm2 hPo2 hS2 (by omega) ls hl)
