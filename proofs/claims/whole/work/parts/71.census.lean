set_option maxHeartbeats 8000000 in
set_option maxRecDepth 100000 in
theorem m_X6_census (l : Launch) (G : oG) (hI : wl_I G.2.1 39) (α β γ : oT) (sz nS nO nH : Nat) (hz : qOK α nS nO nH) (hgv : ∀ k, k < nS → 0 ≤ α 4 0 k) (hco : ∀ k, k < nO → 0 ≤ α 10 0 k) (a1 v1 : Nat) (f1 : Nat → Int32) (a2 v2 : Nat) (f2 : Nat → Int32) (a9 w9 : Nat) (t : Nat → Int32) (t1 t2 : Nat) (hfit : bfit t 1) : Met l yX6_census wsX6_census ({ frames := 6, cells := 56, slots := 560, locals := 171 } : Room) (va_Pc [.ref (G.2.1 0)] (fun U => PW G (mw G (z3 α β γ)) U ∧ oCM G sz a1 v1 f1 a2 v2 f2 a9 w9 t t1 t2 U)) (oQ (some (.int (nI (mCO α t (mWrT (mCS α t nO (mWrT (su (su γ 41 0 0 0) 41 0 1 0) 0 19 f1, 20) nS).1 (mCS α t nO (mWrT (su (su γ 41 0 0 0) 41 0 1 0) 0 19 f1, 20) nS).2 16 f2, (mCS α t nO (mWrT (su (su γ 41 0 0 0) 41 0 1 0) 0 19 f1, 20) nS).2 + 17) nO).2))) (fun H9 => va_P G.1 vwCl (mw G (z3 α β (mCO α t (mWrT (mCS α t nO (mWrT (su (su γ 41 0 0 0) 41 0 1 0) 0 19 f1, 20) nS).1 (mCS α t nO (mWrT (su (su γ 41 0 0 0) 41 0 1 0) 0 19 f1, 20) nS).2 16 f2, (mCS α t nO (mWrT (su (su γ 41 0 0 0) 41 0 1 0) 0 19 f1, 20) nS).2 + 17) nO).1)) H9) (mN G sz)) 56 560 (mN G sz) := by
  refine oE_body (E := oCM G sz a1 v1 f1 a2 v2 f2 a9 w9 t t1 t2) (cc := cX6_census) (by decide +kernel) rfl (Nat.le_of_ble_eq_true rfl) ?_
  intro p e s m below meth c9 ls hx hb hml hr hlocks hown hts hP hK hN hCM hl
  have hown : s.vm.findClass RX6 = some m.cls := hown
  have hl : lv_has ls 2 [(0, .ref (G.2.1 0))] := hl
  obtain ⟨hCM1, hCM2, hCM3, hCM4, hCM5, hCM6, hCM7⟩ := hCM
  have hS : va_S (mN G sz) s.heap s.heap [] := va_S.rf
  obtain ⟨hz1, hz2, hz3, hz4, hz5, hz6, hz7, hz8⟩ := id hz
  obtain ⟨Ax, hAx⟩ : ∃ A : oT × Nat, A = (mWrT (su (su γ 41 0 0 0) 41 0 1 0) 0 19 f1, 20) := ⟨_, rfl⟩
  have hAo : wOK Ax 20 := by rw [hAx]; exact ⟨mWrT_p (su (su γ 41 0 0 0) 41 0 1 0) 0 19 f1, Nat.le_refl _⟩
  obtain ⟨Bx, hBx⟩ : ∃ A : oT × Nat, A = (mWrT (mCS α t nO Ax nS).1 (mCS α t nO Ax nS).2 16 f2, (mCS α t nO Ax nS).2 + 17) := ⟨_, rfl⟩
  have hSo : ∀ k, k ≤ nS → wOK (mCS α t nO Ax k) (20 + 15 * k) := fun k hk => mCS_ok (by omega) hAo k (by omega)
  have hBo : wOK Bx 127 := by rw [hBx]; exact ⟨mWrT_p (mCS α t nO Ax nS).1 (mCS α t nO Ax nS).2 16 f2, by have := (hSo nS (Nat.le_refl _)).2; show _ + 17 ≤ 127; omega⟩
  have hOo : ∀ k, k ≤ nO → wOK (mCO α t Bx k) (127 + 15 * k) := fun k hk => mCO_ok hz hBo k hk
  rw [← hAx, ← hBx]
  have lp94 : ∀ (d k : Nat), k + d = nO → ∀ (H : Heap) (locs : List Loc), va_P G.1 vwCl (mw G (z3 α β ((mCO α t Bx k).1))) H → va_S (mN G sz) s.heap H locs → ∀ ls : Array Slot, lv_has ls 2 [(0, .ref (G.2.1 0)), (1, .int (nI k))] → W p l e ({ frames := 6, cells := 56, slots := 560, locals := 171 } : Room) s m ([.ref (G.2.1 0)] : List Value).toArray below meth c9 H locs (4 * nS + 4 * k) (40 * nS + 40 * k) (MQ below (oQ (some (.int (nI (mCO α t Bx nO).2))) (fun H9 => va_P G.1 vwCl (mw G (z3 α β (mCO α t Bx nO).1)) H9) (mN G sz)) ([.ref (G.2.1 0)] : List Value).toArray s 56 560 (mN G sz)) (F0 m 94 ls []) := by
    intro d
    induction d with
    | zero =>
      intro k hk H locs hP hS ls hl
      have hk : k = nO := by omega
      obtain ⟨hpp, hpl⟩ := hOo k (by omega)
      refine lv_iload_n hx hb dX6_census_94 rfl (lv_at hl 1 rfl) ?_
      refine lv_aload_n hx hb dX6_census_95 rfl (lv_at hl 0 rfl) ?_
      refine va_get (D := G.1) (ci := 8) (v := .ref (ms G 0 0)) (C := RX6) (T := TX6) (N := 6) hx hb hts (fun w9 h9 => List.mem_cons_of_mem _ (List.mem_append_left _ (List.mem_append_left _ (List.mem_append_left _ (List.mem_append_right _ (h9)))))) hown hK hP (0) (mw_M G (z3 α β ((mCO α t Bx k).1))) rfl 4 (by decide) (hts (.fieldLink RX6 21 "OrganCensusModel" "s" "LOrganCensusModel$State;") (List.mem_of_getElem? (i := 3) rfl)) (fun _ h9 => h9) rfl dX6_census_96 ?_
      refine va_getN (D := G.1) (ci := 7) (v := .int (α 40 0 2)) (C := RX5) (T := TX5) (N := 21) hx hb hts (fun w9 h9 => List.mem_cons_of_mem _ (List.mem_append_left _ (List.mem_append_left _ (List.mem_append_right _ (h9))))) hown hK hP (3 + 18 * 0 + (0)) (mv_S G (z3 α β ((mCO α t Bx k).1)) (show 0 < 2 by decide)) rfl 7 (by decide) (va_Nw.use rfl (hN.1 (RX6, 39, RX5, "organs", "I", RX6) (List.mem_of_getElem? (i := 1) rfl))) (fun _ h9 => h9) rfl dX6_census_99 ?_
      refine lv_icmp_ge (tgt := 162) hx hb dX6_census_102 (by decide) (fun c9 => ?_) (fun c9 => absurd (by rw [hz3, hk]; exact Int32.le_refl _) c9)
      refine lv_aload_n hx hb dX6_census_162 rfl (lv_at hl 0 rfl) ?_
      refine va_get (D := G.1) (ci := 8) (v := .int (((mCO α t Bx k).1) 41 0 1)) (C := RX6) (T := TX6) (N := 6) hx hb hts (fun w9 h9 => List.mem_cons_of_mem _ (List.mem_append_left _ (List.mem_append_left _ (List.mem_append_left _ (List.mem_append_right _ (h9)))))) hown hK hP (0) (mw_M G (z3 α β ((mCO α t Bx k).1))) rfl 3 (by decide) (hts (.fieldLink RX6 148 "OrganCensusModel" "papered" "I") (List.mem_of_getElem? (i := 2) rfl)) (fun _ h9 => h9) rfl dX6_census_163 ?_
      refine o_widen (k := 56) (n := 560) (by omega) (by omega) ?_
      subst hk
      exact o_iretM hx hb hr hlocks hS dX6_census_166 hP hpp
    | succ d ih =>
      intro k hk H locs hP hS ls hl
      have hkn : k < nO := by omega
      obtain ⟨hpp, hpl⟩ := hOo k (by omega)
      have hS9 : sz ≤ H.size := Nat.le_trans hCM7 hS.1
      have hco1 : α 10 0 k = nI (oN (α 10 0 k)) := oN_of (hco k hkn)
      have hA31 : oN (α 10 0 k) < 2 ^ 31 := oN_lt
      have hA10 : sD (oN (α 10 0 k)) ≤ 10 := sD_10 hA31
      have htu : qTu α k < 6 := (oTu_lt (rV_of hz k hkn).2.1 (rV_of hz k hkn).2.2).1
      have hB1 : sD (qTu α k) = 1 := sD_1 (by omega)
      have hs1 : sD k = 1 := sD_1 (by omega)
      refine lv_iload_n hx hb dX6_census_94 rfl (lv_at hl 1 rfl) ?_
      refine lv_aload_n hx hb dX6_census_95 rfl (lv_at hl 0 rfl) ?_
      refine va_get (D := G.1) (ci := 8) (v := .ref (ms G 0 0)) (C := RX6) (T := TX6) (N := 6) hx hb hts (fun w9 h9 => List.mem_cons_of_mem _ (List.mem_append_left _ (List.mem_append_left _ (List.mem_append_left _ (List.mem_append_right _ (h9)))))) hown hK hP (0) (mw_M G (z3 α β ((mCO α t Bx k).1))) rfl 4 (by decide) (hts (.fieldLink RX6 21 "OrganCensusModel" "s" "LOrganCensusModel$State;") (List.mem_of_getElem? (i := 3) rfl)) (fun _ h9 => h9) rfl dX6_census_96 ?_
      refine va_getN (D := G.1) (ci := 7) (v := .int (α 40 0 2)) (C := RX5) (T := TX5) (N := 21) hx hb hts (fun w9 h9 => List.mem_cons_of_mem _ (List.mem_append_left _ (List.mem_append_left _ (List.mem_append_right _ (h9))))) hown hK hP (3 + 18 * 0 + (0)) (mv_S G (z3 α β ((mCO α t Bx k).1)) (show 0 < 2 by decide)) rfl 7 (by decide) (va_Nw.use rfl (hN.1 (RX6, 39, RX5, "organs", "I", RX6) (List.mem_of_getElem? (i := 1) rfl))) (fun _ h9 => h9) rfl dX6_census_99 ?_
      refine lv_icmp_ge (tgt := 162) hx hb dX6_census_102 (by decide) (fun c9 => absurd c9 (by rw [hz3]; exact Int32.not_le.mpr (nI_lt hkn (by omega)))) (fun c9 => ?_)
      refine lv_aload_n hx hb dX6_census_105 rfl (lv_at hl 0 rfl) ?_
      have hPM := hP
      have hE := hCM1
      refine o_newC (ci := 1) (C := RJ4) (T := TJ4) (N := 4) hx hb hts (fun w9 h9 => List.mem_cons_of_mem _ (List.mem_append_left _ (List.mem_append_right _ (h9)))) tyJ4 tyJ4_ok hown (hts (.classLink RX6 173 RJ4) (List.mem_of_getElem? (i := 4) rfl)) (hts (.instantiable RJ4 4) (List.mem_of_getElem? (i := 5) rfl)) (hts (.initialized RJ4) (List.mem_of_getElem? (i := 6) rfl)) hK hP hS rfl (fs := [.null, .int 0, .int 0, .int 0]) (by decide +kernel) (show 4 * nS + 4 * k + 1 ≤ 56 by omega) (show 40 * nS + 40 * k + 4 ≤ 560 by omega) dX6_census_106 (fun H1 hPn hz1 hk1 hS => ?_)
      obtain ⟨b, hb9⟩ : ∃ b, b = H.size := ⟨_, rfl⟩
      rw [← hb9] at hPn hz1 hk1 ⊢
      have hbz : sz ≤ b := by have := hS9; omega
      have hMb : ∀ (k9 : Nat) (x9 : Nat × va_E), (mw G (z3 α β ((mCO α t Bx k).1)))[k9]? = some x9 → x9.1 < b := fun k9 x9 h9 => by rw [hb9]; exact (hPM k9 x9 h9).lt
      have hP := (ol_split hPn).1
      have hPb : va_P G.1 vwCl (bw0 b) H1 := (ol_split hPn).2
      refine lv_dup hx hb dX6_census_109 rfl ?_
      refine oB_cI (sz := b + 1) [] [.ref b, .ref (G.2.1 0)] ⟨hx, hb, hml, hown, hts⟩ (m_J4_init l G b (b + 1) a9 w9 1 t t1 t2) (cwI 0 hts gX6_census_J4_init_da8c8 rfl rfl rfl (hts (.initialized RJ4) (List.mem_of_getElem? (i := 6) rfl)) (hts (.methodLink RX6 175 yJ4_init_da8c8) (List.mem_of_getElem? (i := 62) rfl)) (hts (.instanceMethod yJ4_init_da8c8) (List.mem_of_getElem? (i := 63) rfl)) rfl (by decide +kernel) ⟨Nat.le_of_ble_eq_true rfl, Nat.le_of_ble_eq_true rfl⟩) hK hN hPb hE hS (fun q h => Or.inr (by rcases h with h | h <;> omega)) (by omega) rfl hl.1 rfl (Nat.le_of_ble_eq_true rfl) dX6_census_110 ⟨(show 4 * nS + 4 * k + 1 + 1 ≤ 56 by omega), (show 40 * nS + 40 * k + 4 + 16 ≤ 560 by omega)⟩ (fun H2 locs2 hPi hz2 hk2 hS => ?_)
      obtain ⟨v, hvz, hbv, hPb⟩ := hPi
      have hP := hP.kept (fun k9 x9 h9 => hk2 _ (hP k9 x9 h9).lt (fun h => by have := hMb k9 x9 h9; rcases h with h | h <;> omega))
      have hAB : ∀ q, bA b v q → mN G sz q := fun q h => Or.inr (by rcases h with h | h <;> omega)
      have hnA : ∀ (k9 : Nat) (x9 : Nat × va_E), (mw G (z3 α β ((mCO α t Bx k).1)))[k9]? = some x9 → ¬ bA b v x9.1 := fun k9 x9 h9 h => by have := hMb k9 x9 h9; rcases h with h | h <;> omega
      have hPb : va_P G.1 vwCl (bw G b v (nI 0) (fun _ => 0)) H2 := hPb
      refine lv_iload_n hx hb dX6_census_113 rfl (lv_at hl 1 rfl) ?_
      refine oB_cV (q0 := 0) (ci := 1) [.int (nI k)] [.ref (G.2.1 0)] ⟨hx, hb, hml, hown, hts⟩ (m_J4_append_bf812 l G b v hbv (nI 0) (fun _ => 0) (b + 1) a9 w9 1 t t1 t2 0 k (by omega) (by omega)) (cwV 1 hts gX6_census_J4_append_bf812 rfl rfl rfl (by decide +kernel) ⟨Nat.le_of_ble_eq_true rfl, Nat.le_of_ble_eq_true rfl⟩) hK hN hPb hE hS hAB (by omega) rfl rfl (bw_0 G b v (nI 0) (fun _ => 0)) rfl hl.1 rfl (Nat.le_of_ble_eq_true rfl) dX6_census_114 ⟨(show 4 * nS + 4 * k + 1 + 1 + 0 ≤ 56 by omega), (show 40 * nS + 40 * k + 4 + 16 + 0 ≤ 560 by omega)⟩ (fun H3 locs3 hPb hz3 hk3 hS => ?_)
      change W _ _ _ _ _ _ _ _ _ _ _ _ _ _ _ (F0 m 117 ls [.ref b, .ref (G.2.1 0)])
      have hP := hP.kept (fun k9 x9 h9 => hk3 _ (hP k9 x9 h9).lt (hnA k9 x9 h9))
      refine va_ldcS hx hb hown hCM6 dX6_census_117 ?_
      refine oB_cV (q0 := 0) (ci := 1) [.ref a9] [.ref (G.2.1 0)] ⟨hx, hb, hml, hown, hts⟩ (m_J4_append_15ec4 l G b v hbv (nI (0 + sD k)) (dA (fun _ => 0) 0 k) (b + 1) a9 w9 1 t t1 t2 (0 + sD k) hfit (by omega)) (cwV 1 hts gX6_census_J4_append_15ec4 rfl rfl rfl (by decide +kernel) ⟨Nat.le_of_ble_eq_true rfl, Nat.le_of_ble_eq_true rfl⟩) hK hN hPb hE hS hAB (by omega) rfl rfl (bw_0 G b v (nI (0 + sD k)) (dA (fun _ => 0) 0 k)) rfl hl.1 rfl (Nat.le_of_ble_eq_true rfl) dX6_census_119 ⟨(show 4 * nS + 4 * k + 1 + 1 + 0 ≤ 56 by omega), (show 40 * nS + 40 * k + 4 + 16 + 0 ≤ 560 by omega)⟩ (fun H4 locs4 hPb hz4 hk4 hS => ?_)
      change W _ _ _ _ _ _ _ _ _ _ _ _ _ _ _ (F0 m 122 ls [.ref b, .ref (G.2.1 0)])
      have hP := hP.kept (fun k9 x9 h9 => hk4 _ (hP k9 x9 h9).lt (hnA k9 x9 h9))
      refine lv_aload_n hx hb dX6_census_122 rfl (lv_at hl 0 rfl) ?_
      refine va_get (D := G.1) (ci := 8) (v := .ref (ms G 0 0)) (C := RX6) (T := TX6) (N := 6) hx hb hts (fun w9 h9 => List.mem_cons_of_mem _ (List.mem_append_left _ (List.mem_append_left _ (List.mem_append_left _ (List.mem_append_right _ (h9)))))) hown hK hP (0) (mw_M G (z3 α β ((mCO α t Bx k).1))) rfl 4 (by decide) (hts (.fieldLink RX6 21 "OrganCensusModel" "s" "LOrganCensusModel$State;") (List.mem_of_getElem? (i := 3) rfl)) (fun _ h9 => h9) rfl dX6_census_123 ?_
      refine va_getN (D := G.1) (ci := 7) (v := .ref (ms G 0 10)) (C := RX5) (T := TX5) (N := 21) hx hb hts (fun w9 h9 => List.mem_cons_of_mem _ (List.mem_append_left _ (List.mem_append_left _ (List.mem_append_right _ (h9))))) hown hK hP (3 + 18 * 0 + (0)) (mv_S G (z3 α β ((mCO α t Bx k).1)) (show 0 < 2 by decide)) rfl 12 (by decide) (va_Nw.use rfl (hN.1 (RX6, 122, RX5, "coins", "[I", RX6) (List.mem_of_getElem? (i := 16) rfl))) (fun _ h9 => h9) rfl dX6_census_126 ?_
      refine lv_iload_n hx hb dX6_census_129 rfl (lv_at hl 1 rfl) ?_
      refine o_iald (k := k) hx hb hK hP (3 + 18 * 0 + (10)) 0 (mv_A10 G (z3 α β ((mCO α t Bx k).1)) (show 0 < 2 by decide)) rfl rfl (by omega) (by decide) dX6_census_130 ?_
      change W _ _ _ _ _ _ _ _ _ _ _ _ _ _ _ (F0 m 131 ls [.int (α 10 0 k), .ref b, .ref (G.2.1 0)])
      rw [hco1]
      refine oB_cV (q0 := 0) (ci := 1) [.int (nI (oN (α 10 0 k)))] [.ref (G.2.1 0)] ⟨hx, hb, hml, hown, hts⟩ (m_J4_append_bf812 l G b v hbv (nI (0 + sD k + 1)) (va_cpy t (dA (fun _ => 0) 0 k) 0 (0 + sD k) 1) (b + 1) a9 w9 1 t t1 t2 (0 + sD k + 1) (oN (α 10 0 k)) (by omega) (by omega)) (cwV 1 hts gX6_census_J4_append_bf812 rfl rfl rfl (by decide +kernel) ⟨Nat.le_of_ble_eq_true rfl, Nat.le_of_ble_eq_true rfl⟩) hK hN hPb hE hS hAB (by omega) rfl rfl (bw_0 G b v (nI (0 + sD k + 1)) (va_cpy t (dA (fun _ => 0) 0 k) 0 (0 + sD k) 1)) rfl hl.1 rfl (Nat.le_of_ble_eq_true rfl) dX6_census_131 ⟨(show 4 * nS + 4 * k + 1 + 1 + 0 ≤ 56 by omega), (show 40 * nS + 40 * k + 4 + 16 + 0 ≤ 560 by omega)⟩ (fun H5 locs5 hPb hz5 hk5 hS => ?_)
      change W _ _ _ _ _ _ _ _ _ _ _ _ _ _ _ (F0 m 134 ls [.ref b, .ref (G.2.1 0)])
      have hP := hP.kept (fun k9 x9 h9 => hk5 _ (hP k9 x9 h9).lt (hnA k9 x9 h9))
      refine va_ldcS hx hb hown hCM6 dX6_census_134 ?_
      refine oB_cV (q0 := 0) (ci := 1) [.ref a9] [.ref (G.2.1 0)] ⟨hx, hb, hml, hown, hts⟩ (m_J4_append_15ec4 l G b v hbv (nI (0 + sD k + 1 + sD (oN (α 10 0 k)))) (dA (va_cpy t (dA (fun _ => 0) 0 k) 0 (0 + sD k) 1) (0 + sD k + 1) (oN (α 10 0 k))) (b + 1) a9 w9 1 t t1 t2 (0 + sD k + 1 + sD (oN (α 10 0 k))) hfit (by omega)) (cwV 1 hts gX6_census_J4_append_15ec4 rfl rfl rfl (by decide +kernel) ⟨Nat.le_of_ble_eq_true rfl, Nat.le_of_ble_eq_true rfl⟩) hK hN hPb hE hS hAB (by omega) rfl rfl (bw_0 G b v (nI (0 + sD k + 1 + sD (oN (α 10 0 k)))) (dA (va_cpy t (dA (fun _ => 0) 0 k) 0 (0 + sD k) 1) (0 + sD k + 1) (oN (α 10 0 k)))) rfl hl.1 rfl (Nat.le_of_ble_eq_true rfl) dX6_census_136 ⟨(show 4 * nS + 4 * k + 1 + 1 + 0 ≤ 56 by omega), (show 40 * nS + 40 * k + 4 + 16 + 0 ≤ 560 by omega)⟩ (fun H6 locs6 hPb hz6 hk6 hS => ?_)
      change W _ _ _ _ _ _ _ _ _ _ _ _ _ _ _ (F0 m 139 ls [.ref b, .ref (G.2.1 0)])
      have hP := hP.kept (fun k9 x9 h9 => hk6 _ (hP k9 x9 h9).lt (hnA k9 x9 h9))
      refine lv_aload_n hx hb dX6_census_139 rfl (lv_at hl 0 rfl) ?_
      refine va_get (D := G.1) (ci := 8) (v := .ref (ms G 0 0)) (C := RX6) (T := TX6) (N := 6) hx hb hts (fun w9 h9 => List.mem_cons_of_mem _ (List.mem_append_left _ (List.mem_append_left _ (List.mem_append_left _ (List.mem_append_right _ (h9)))))) hown hK hP (0) (mw_M G (z3 α β ((mCO α t Bx k).1))) rfl 4 (by decide) (hts (.fieldLink RX6 21 "OrganCensusModel" "s" "LOrganCensusModel$State;") (List.mem_of_getElem? (i := 3) rfl)) (fun _ h9 => h9) rfl dX6_census_140 ?_
      refine lv_iload_n hx hb dX6_census_143 rfl (lv_at hl 1 rfl) ?_
      have hP : va_P G.1 vwCl (mtw G (z3 α β ((mCO α t Bx k).1)) 0 α) H6 := by rw [mz0]; exact hP
      refine o_cVi (q0 := 3 + 18 * 0 + (0)) (ci := 7) [.int (nI k)] [.ref b, .ref (G.2.1 0)] ⟨hx, hb, hml, hown, hts⟩ (m_X5_tune l G (z3 α β ((mCO α t Bx k).1)) (show 0 < 2 by decide) α nS nO nH hz k (nI k) rfl (by omega)) (cwV 1 hts gX6_census_X5_tune rfl rfl rfl (by decide +kernel) ⟨Nat.le_of_ble_eq_true rfl, Nat.le_of_ble_eq_true rfl⟩) hK hN hP rfl rfl (mt_S G (z3 α β ((mCO α t Bx k).1)) (show 0 < 2 by decide) α) rfl hl.1 rfl (Nat.le_of_ble_eq_true rfl) dX6_census_144 ⟨(show 4 * nS + 4 * k + 1 + 1 ≤ 56 by omega), (show 40 * nS + 40 * k + 4 + 16 ≤ 560 by omega)⟩ ?_
      have hP : va_P G.1 vwCl (mw G (z3 α β ((mCO α t Bx k).1))) H6 := by rw [mz0] at hP; exact hP
      change W _ _ _ _ _ _ _ _ _ _ _ _ _ _ _ (F0 m 147 ls [.int (nI (qTu α k)), .ref b, .ref (G.2.1 0)])
      refine oB_cV (q0 := 0) (ci := 1) [.int (nI (qTu α k))] [.ref (G.2.1 0)] ⟨hx, hb, hml, hown, hts⟩ (m_J4_append_bf812 l G b v hbv (nI (0 + sD k + 1 + sD (oN (α 10 0 k)) + 1)) (va_cpy t (dA (va_cpy t (dA (fun _ => 0) 0 k) 0 (0 + sD k) 1) (0 + sD k + 1) (oN (α 10 0 k))) 0 (0 + sD k + 1 + sD (oN (α 10 0 k))) 1) (b + 1) a9 w9 1 t t1 t2 (0 + sD k + 1 + sD (oN (α 10 0 k)) + 1) (qTu α k) (by omega) (by omega)) (cwV 1 hts gX6_census_J4_append_bf812 rfl rfl rfl (by decide +kernel) ⟨Nat.le_of_ble_eq_true rfl, Nat.le_of_ble_eq_true rfl⟩) hK hN hPb hE hS hAB (by omega) rfl rfl (bw_0 G b v (nI (0 + sD k + 1 + sD (oN (α 10 0 k)) + 1)) (va_cpy t (dA (va_cpy t (dA (fun _ => 0) 0 k) 0 (0 + sD k) 1) (0 + sD k + 1) (oN (α 10 0 k))) 0 (0 + sD k + 1 + sD (oN (α 10 0 k))) 1)) rfl hl.1 rfl (Nat.le_of_ble_eq_true rfl) dX6_census_147 ⟨(show 4 * nS + 4 * k + 1 + 1 + 0 ≤ 56 by omega), (show 40 * nS + 40 * k + 4 + 16 + 0 ≤ 560 by omega)⟩ (fun H7 locs7 hPb hz7 hk7 hS => ?_)
      change W _ _ _ _ _ _ _ _ _ _ _ _ _ _ _ (F0 m 150 ls [.ref b, .ref (G.2.1 0)])
      have hP := hP.kept (fun k9 x9 h9 => hk7 _ (hP k9 x9 h9).lt (hnA k9 x9 h9))
      have hft := lnT_fit hfit k (oN (α 10 0 k)) (qTu α k)
      have hPb : va_P G.1 vwCl (bw G b v (nI (lnN k (oN (α 10 0 k)) (qTu α k))) (lnT t k (oN (α 10 0 k)) (qTu α k))) H7 := hPb
      have hln : lnN k (oN (α 10 0 k)) (qTu α k) ≤ 14 := by unfold lnN; omega
      have hsz : sz ≤ H7.size ∧ b < H7.size ∧ v < H7.size := ⟨by have := (hPb 0 _ rfl).lt; omega, (hPb 0 _ rfl).lt, (hPb 1 _ rfl).lt⟩
      obtain ⟨zz, hzz⟩ : ∃ zz, zz = H7.size := ⟨_, rfl⟩
      rw [← hzz] at hsz
      have hMz : ∀ (k9 : Nat) (x9 : Nat × va_E), (mw G (z3 α β ((mCO α t Bx k).1)))[k9]? = some x9 → x9.1 < zz := fun k9 x9 h9 => by have := hMb k9 x9 h9; omega
      refine oB_cVx (q0 := 0) (ci := 1) (sz := zz) [] [.ref (G.2.1 0)] ⟨hx, hb, hml, hown, hts⟩ (m_J4_toString l G b v hbv (lnT t k (oN (α 10 0 k)) (qTu α k)) (lnN k (oN (α 10 0 k)) (qTu α k)) (by omega) hft zz a9 w9 1 t t1 t2 (by omega) (by omega)) (cwV 0 hts gX6_census_J4_toString_0e30d rfl rfl rfl (by decide +kernel) ⟨Nat.le_of_ble_eq_true rfl, Nat.le_of_ble_eq_true rfl⟩) hK hN hPb hE hS (fun q h => Or.inr (show sz ≤ q from Nat.le_trans hsz.1 h)) (by omega) rfl rfl (bw_0 G b v _ _) rfl hl.1 rfl (Nat.le_of_ble_eq_true rfl) dX6_census_150 ⟨(show 4 * nS + 4 * k + 1 + 1 + 2 ≤ 56 by omega), (show 40 * nS + 40 * k + 4 + 16 + 20 ≤ 560 by omega)⟩ (fun a7 H8 locs8 hPs hz8 hk8 hS => ?_)
      obtain ⟨ha7, q7, hq7, haq7, hPs⟩ := hPs
      have hP := hP.kept (fun k9 x9 h9 => hk8 _ (hP k9 x9 h9).lt (fun h => absurd (hMz k9 x9 h9) (Nat.not_lt.mpr h)))
      have hnm : ∀ q, zz ≤ q → ¬ mA G q := fun q hq h => by obtain ⟨k9, hk9, e9⟩ := h; have h8 := hMz k9 _ (wl_at hk9 rfl); rw [← e9] at h8; omega
      have hT9 := oSt_of (A := mA G) hts (fun w9 h9 => List.mem_cons_of_mem _ (List.mem_append_right _ (h9))) hK hPs (hnm _ ha7) (hnm _ hq7)
      refine oT_cVn (q0 := 0) (ci := 8) [.ref a7] [] ⟨hx, hb, hml, hown, hts⟩ (m_X6_write l G hI α β ((mCO α t Bx k).1) a7 q7 (lnN k (oN (α 10 0 k)) (qTu α k)) (lnS t k (oN (α 10 0 k)) (qTu α k)) (by omega) (fun _ _ => pk_nc _) ((mCO α t Bx k).2) hpp (by omega)) (cwV 1 hts gX6_census_X6_write rfl rfl rfl (by decide +kernel) ⟨Nat.le_of_ble_eq_true rfl, Nat.le_of_ble_eq_true rfl⟩) hK hN hP hT9 hCM1.1 hS (fun q h => Or.inl h) rfl rfl (mw_M G (z3 α β ((mCO α t Bx k).1))) rfl hl.1 rfl (Nat.le_of_ble_eq_true rfl) dX6_census_153 ⟨(show 4 * nS + 4 * k + 1 + 1 + 2 ≤ 56 by omega), (show 40 * nS + 40 * k + 4 + 16 + 20 ≤ 560 by omega)⟩ (fun H locs hP _ _ hS => ?_)
      refine lv_iinc (v := nI (k + 1)) (lv' := [(1, .int (nI (k + 1))), (0, .ref (G.2.1 0))]) hx hb dX6_census_156 hl (k := 1) rfl (nI_1 k) (by decide) rfl (fun ls hl => ?_)
      refine lv_goto (tgt := 94) hx hb dX6_census_159 (by decide) ?_
      refine o_widen (k := 4 * nS + 4 * (k + 1)) (n := 40 * nS + 40 * (k + 1)) (by omega) (by omega) ?_
      exact ih (k + 1) (by omega) H locs hP hS ls (lv_sub hl [1, 0] rfl)
  have lp18 : ∀ (d k : Nat), k + d = nS → ∀ (H : Heap) (locs : List Loc), va_P G.1 vwCl (mw G (z3 α β ((mCS α t nO Ax k).1))) H → va_S (mN G sz) s.heap H locs → ∀ ls : Array Slot, lv_has ls 2 [(0, .ref (G.2.1 0)), (1, .int (nI k))] → W p l e ({ frames := 6, cells := 56, slots := 560, locals := 171 } : Room) s m ([.ref (G.2.1 0)] : List Value).toArray below meth c9 H locs (4 * k) (40 * k) (MQ below (oQ (some (.int (nI (mCO α t Bx nO).2))) (fun H9 => va_P G.1 vwCl (mw G (z3 α β (mCO α t Bx nO).1)) H9) (mN G sz)) ([.ref (G.2.1 0)] : List Value).toArray s 56 560 (mN G sz)) (F0 m 18 ls []) := by
    intro d
    induction d with
    | zero =>
      intro k hk H locs hP hS ls hl
      have hk : k = nS := by omega
      obtain ⟨hpp, hpl⟩ := hSo k (by omega)
      have hS9 : sz ≤ H.size := Nat.le_trans hCM7 hS.1
      refine lv_iload_n hx hb dX6_census_18 rfl (lv_at hl 1 rfl) ?_
      refine lv_aload_n hx hb dX6_census_19 rfl (lv_at hl 0 rfl) ?_
      refine va_get (D := G.1) (ci := 8) (v := .ref (ms G 0 0)) (C := RX6) (T := TX6) (N := 6) hx hb hts (fun w9 h9 => List.mem_cons_of_mem _ (List.mem_append_left _ (List.mem_append_left _ (List.mem_append_left _ (List.mem_append_right _ (h9)))))) hown hK hP (0) (mw_M G (z3 α β ((mCS α t nO Ax k).1))) rfl 4 (by decide) (hts (.fieldLink RX6 21 "OrganCensusModel" "s" "LOrganCensusModel$State;") (List.mem_of_getElem? (i := 3) rfl)) (fun _ h9 => h9) rfl dX6_census_20 ?_
      refine va_getN (D := G.1) (ci := 7) (v := .int (α 40 0 1)) (C := RX5) (T := TX5) (N := 21) hx hb hts (fun w9 h9 => List.mem_cons_of_mem _ (List.mem_append_left _ (List.mem_append_left _ (List.mem_append_right _ (h9))))) hown hK hP (3 + 18 * 0 + (0)) (mv_S G (z3 α β ((mCS α t nO Ax k).1)) (show 0 < 2 by decide)) rfl 1 (by decide) (va_Nw.use rfl (hN.1 (RX6, 32, RX5, "streets", "I", RX6) (List.mem_of_getElem? (i := 0) rfl))) (fun _ h9 => h9) rfl dX6_census_23 ?_
      refine lv_icmp_ge (tgt := 86) hx hb dX6_census_26 (by decide) (fun c9 => ?_) (fun c9 => absurd (by rw [hz1, hk]; exact Int32.le_refl _) c9)
      refine lv_aload_n hx hb dX6_census_86 rfl (lv_at hl 0 rfl) ?_
      refine va_ldcS hx hb hown hCM5 dX6_census_87 ?_
      refine oT_cVn (q0 := 0) (ci := 8) [.ref a2] [] ⟨hx, hb, hml, hown, hts⟩ (m_X6_write l G hI α β ((mCS α t nO Ax k).1) a2 v2 16 f2 (by decide) (fun _ _ => pk_nc _) ((mCS α t nO Ax k).2) hpp (by omega)) (cwV 1 hts gX6_census_X6_write rfl rfl rfl (by decide +kernel) ⟨Nat.le_of_ble_eq_true rfl, Nat.le_of_ble_eq_true rfl⟩) hK hN hP (((hCM3).kept hS.2.1).narrow (fun q h => Or.inl h)) hCM1.1 hS (fun q h => Or.inl h) rfl rfl (mw_M G (z3 α β ((mCS α t nO Ax k).1))) rfl hl.1 rfl (Nat.le_of_ble_eq_true rfl) dX6_census_89 ⟨(show 4 * k ≤ 56 by omega), (show 40 * k ≤ 560 by omega)⟩ (fun H locs hP _ _ hS => ?_)
      subst hk
      have hP : va_P G.1 vwCl (mw G (z3 α β (mCO α t Bx 0).1)) H := by show va_P G.1 vwCl (mw G (z3 α β Bx.1)) H; rw [hBx]; exact hP
      refine lv_iconst (v := 0) hx hb dX6_census_92 (by decide) ?_
      refine lv_istore_n (lv' := [(1, .int 0), (0, .ref (G.2.1 0))]) hx hb dX6_census_93 rfl hl (by decide) rfl (fun ls hl => ?_)
      exact lp94 nO 0 (by omega) H locs hP hS ls (lv_sub hl [1, 0] rfl)
    | succ d ih =>
      intro k hk H locs hP hS ls hl
      have hkn : k < nS := by omega
      obtain ⟨hpp, hpl⟩ := hSo k (by omega)
      have hS9 : sz ≤ H.size := Nat.le_trans hCM7 hS.1
      have hgv1 : α 4 0 k = nI (oN (α 4 0 k)) := oN_of (hgv k hkn)
      have hA31 : oN (α 4 0 k) < 2 ^ 31 := oN_lt
      have hA10 : sD (oN (α 4 0 k)) ≤ 10 := sD_10 hA31
      obtain ⟨hst1, hst8⟩ := qStandN_8 (τ := α) (x := nI k) (n := nO) hz4
      have hB1 : sD (oN (qStandN α (nI k) nO)) = 1 := sD_1 (by omega)
      have hs1 : sD k = 1 := sD_1 (by omega)
      refine lv_iload_n hx hb dX6_census_18 rfl (lv_at hl 1 rfl) ?_
      refine lv_aload_n hx hb dX6_census_19 rfl (lv_at hl 0 rfl) ?_
      refine va_get (D := G.1) (ci := 8) (v := .ref (ms G 0 0)) (C := RX6) (T := TX6) (N := 6) hx hb hts (fun w9 h9 => List.mem_cons_of_mem _ (List.mem_append_left _ (List.mem_append_left _ (List.mem_append_left _ (List.mem_append_right _ (h9)))))) hown hK hP (0) (mw_M G (z3 α β ((mCS α t nO Ax k).1))) rfl 4 (by decide) (hts (.fieldLink RX6 21 "OrganCensusModel" "s" "LOrganCensusModel$State;") (List.mem_of_getElem? (i := 3) rfl)) (fun _ h9 => h9) rfl dX6_census_20 ?_
      refine va_getN (D := G.1) (ci := 7) (v := .int (α 40 0 1)) (C := RX5) (T := TX5) (N := 21) hx hb hts (fun w9 h9 => List.mem_cons_of_mem _ (List.mem_append_left _ (List.mem_append_left _ (List.mem_append_right _ (h9))))) hown hK hP (3 + 18 * 0 + (0)) (mv_S G (z3 α β ((mCS α t nO Ax k).1)) (show 0 < 2 by decide)) rfl 1 (by decide) (va_Nw.use rfl (hN.1 (RX6, 32, RX5, "streets", "I", RX6) (List.mem_of_getElem? (i := 0) rfl))) (fun _ h9 => h9) rfl dX6_census_23 ?_
      refine lv_icmp_ge (tgt := 86) hx hb dX6_census_26 (by decide) (fun c9 => absurd c9 (by rw [hz1]; exact Int32.not_le.mpr (nI_lt hkn (by omega)))) (fun c9 => ?_)
      refine lv_aload_n hx hb dX6_census_29 rfl (lv_at hl 0 rfl) ?_
      have hPM := hP
      have hE := hCM1
      refine o_newC (ci := 1) (C := RJ4) (T := TJ4) (N := 4) hx hb hts (fun w9 h9 => List.mem_cons_of_mem _ (List.mem_append_left _ (List.mem_append_right _ (h9)))) tyJ4 tyJ4_ok hown (hts (.classLink RX6 173 RJ4) (List.mem_of_getElem? (i := 4) rfl)) (hts (.instantiable RJ4 4) (List.mem_of_getElem? (i := 5) rfl)) (hts (.initialized RJ4) (List.mem_of_getElem? (i := 6) rfl)) hK hP hS rfl (fs := [.null, .int 0, .int 0, .int 0]) (by decide +kernel) (show 4 * k + 1 ≤ 56 by omega) (show 40 * k + 4 ≤ 560 by omega) dX6_census_30 (fun H1 hPn hz1 hk1 hS => ?_)
      obtain ⟨b, hb9⟩ : ∃ b, b = H.size := ⟨_, rfl⟩
      rw [← hb9] at hPn hz1 hk1 ⊢
      have hbz : sz ≤ b := by have := hS9; omega
      have hMb : ∀ (k9 : Nat) (x9 : Nat × va_E), (mw G (z3 α β ((mCS α t nO Ax k).1)))[k9]? = some x9 → x9.1 < b := fun k9 x9 h9 => by rw [hb9]; exact (hPM k9 x9 h9).lt
      have hP := (ol_split hPn).1
      have hPb : va_P G.1 vwCl (bw0 b) H1 := (ol_split hPn).2
      refine lv_dup hx hb dX6_census_33 rfl ?_
      refine oB_cI (sz := b + 1) [] [.ref b, .ref (G.2.1 0)] ⟨hx, hb, hml, hown, hts⟩ (m_J4_init l G b (b + 1) a9 w9 1 t t1 t2) (cwI 0 hts gX6_census_J4_init_da8c8 rfl rfl rfl (hts (.initialized RJ4) (List.mem_of_getElem? (i := 6) rfl)) (hts (.methodLink RX6 175 yJ4_init_da8c8) (List.mem_of_getElem? (i := 62) rfl)) (hts (.instanceMethod yJ4_init_da8c8) (List.mem_of_getElem? (i := 63) rfl)) rfl (by decide +kernel) ⟨Nat.le_of_ble_eq_true rfl, Nat.le_of_ble_eq_true rfl⟩) hK hN hPb hE hS (fun q h => Or.inr (by rcases h with h | h <;> omega)) (by omega) rfl hl.1 rfl (Nat.le_of_ble_eq_true rfl) dX6_census_34 ⟨(show 4 * k + 1 + 1 ≤ 56 by omega), (show 40 * k + 4 + 16 ≤ 560 by omega)⟩ (fun H2 locs2 hPi hz2 hk2 hS => ?_)
      obtain ⟨v, hvz, hbv, hPb⟩ := hPi
      have hP := hP.kept (fun k9 x9 h9 => hk2 _ (hP k9 x9 h9).lt (fun h => by have := hMb k9 x9 h9; rcases h with h | h <;> omega))
      have hAB : ∀ q, bA b v q → mN G sz q := fun q h => Or.inr (by rcases h with h | h <;> omega)
      have hnA : ∀ (k9 : Nat) (x9 : Nat × va_E), (mw G (z3 α β ((mCS α t nO Ax k).1)))[k9]? = some x9 → ¬ bA b v x9.1 := fun k9 x9 h9 h => by have := hMb k9 x9 h9; rcases h with h | h <;> omega
      have hPb : va_P G.1 vwCl (bw G b v (nI 0) (fun _ => 0)) H2 := hPb
      refine lv_iload_n hx hb dX6_census_37 rfl (lv_at hl 1 rfl) ?_
      refine oB_cV (q0 := 0) (ci := 1) [.int (nI k)] [.ref (G.2.1 0)] ⟨hx, hb, hml, hown, hts⟩ (m_J4_append_bf812 l G b v hbv (nI 0) (fun _ => 0) (b + 1) a9 w9 1 t t1 t2 0 k (by omega) (by omega)) (cwV 1 hts gX6_census_J4_append_bf812 rfl rfl rfl (by decide +kernel) ⟨Nat.le_of_ble_eq_true rfl, Nat.le_of_ble_eq_true rfl⟩) hK hN hPb hE hS hAB (by omega) rfl rfl (bw_0 G b v (nI 0) (fun _ => 0)) rfl hl.1 rfl (Nat.le_of_ble_eq_true rfl) dX6_census_38 ⟨(show 4 * k + 1 + 1 + 0 ≤ 56 by omega), (show 40 * k + 4 + 16 + 0 ≤ 560 by omega)⟩ (fun H3 locs3 hPb hz3 hk3 hS => ?_)
      change W _ _ _ _ _ _ _ _ _ _ _ _ _ _ _ (F0 m 41 ls [.ref b, .ref (G.2.1 0)])
      have hP := hP.kept (fun k9 x9 h9 => hk3 _ (hP k9 x9 h9).lt (hnA k9 x9 h9))
      refine va_ldcS hx hb hown hCM6 dX6_census_41 ?_
      refine oB_cV (q0 := 0) (ci := 1) [.ref a9] [.ref (G.2.1 0)] ⟨hx, hb, hml, hown, hts⟩ (m_J4_append_15ec4 l G b v hbv (nI (0 + sD k)) (dA (fun _ => 0) 0 k) (b + 1) a9 w9 1 t t1 t2 (0 + sD k) hfit (by omega)) (cwV 1 hts gX6_census_J4_append_15ec4 rfl rfl rfl (by decide +kernel) ⟨Nat.le_of_ble_eq_true rfl, Nat.le_of_ble_eq_true rfl⟩) hK hN hPb hE hS hAB (by omega) rfl rfl (bw_0 G b v (nI (0 + sD k)) (dA (fun _ => 0) 0 k)) rfl hl.1 rfl (Nat.le_of_ble_eq_true rfl) dX6_census_43 ⟨(show 4 * k + 1 + 1 + 0 ≤ 56 by omega), (show 40 * k + 4 + 16 + 0 ≤ 560 by omega)⟩ (fun H4 locs4 hPb hz4 hk4 hS => ?_)
      change W _ _ _ _ _ _ _ _ _ _ _ _ _ _ _ (F0 m 46 ls [.ref b, .ref (G.2.1 0)])
      have hP := hP.kept (fun k9 x9 h9 => hk4 _ (hP k9 x9 h9).lt (hnA k9 x9 h9))
      refine lv_aload_n hx hb dX6_census_46 rfl (lv_at hl 0 rfl) ?_
      refine va_get (D := G.1) (ci := 8) (v := .ref (ms G 0 0)) (C := RX6) (T := TX6) (N := 6) hx hb hts (fun w9 h9 => List.mem_cons_of_mem _ (List.mem_append_left _ (List.mem_append_left _ (List.mem_append_left _ (List.mem_append_right _ (h9)))))) hown hK hP (0) (mw_M G (z3 α β ((mCS α t nO Ax k).1))) rfl 4 (by decide) (hts (.fieldLink RX6 21 "OrganCensusModel" "s" "LOrganCensusModel$State;") (List.mem_of_getElem? (i := 3) rfl)) (fun _ h9 => h9) rfl dX6_census_47 ?_
      refine lv_iload_n hx hb dX6_census_50 rfl (lv_at hl 1 rfl) ?_
      have hP : va_P G.1 vwCl (mtw G (z3 α β ((mCS α t nO Ax k).1)) 0 α) H4 := by rw [mz0]; exact hP
      refine o_cVi (q0 := 3 + 18 * 0 + (0)) (ci := 7) [.int (nI k)] [.ref b, .ref (G.2.1 0)] ⟨hx, hb, hml, hown, hts⟩ (m_X5_standing l G (z3 α β ((mCS α t nO Ax k).1)) (show 0 < 2 by decide) α nS nO nH hz (nI k)) (cwV 1 hts gX6_census_X5_standing rfl rfl rfl (by decide +kernel) ⟨Nat.le_of_ble_eq_true rfl, Nat.le_of_ble_eq_true rfl⟩) hK hN hP rfl rfl (mt_S G (z3 α β ((mCS α t nO Ax k).1)) (show 0 < 2 by decide) α) rfl hl.1 rfl (Nat.le_of_ble_eq_true rfl) dX6_census_51 ⟨(show 4 * k + 1 + 1 ≤ 56 by omega), (show 40 * k + 4 + 16 ≤ 560 by omega)⟩ ?_
      have hP : va_P G.1 vwCl (mw G (z3 α β ((mCS α t nO Ax k).1))) H4 := by rw [mz0] at hP; exact hP
      change W _ _ _ _ _ _ _ _ _ _ _ _ _ _ _ (F0 m 54 ls [.int (qStandN α (nI k) nO), .ref b, .ref (G.2.1 0)])
      rw [hst1]
      refine oB_cV (q0 := 0) (ci := 1) [.int (nI (oN (qStandN α (nI k) nO)))] [.ref (G.2.1 0)] ⟨hx, hb, hml, hown, hts⟩ (m_J4_append_bf812 l G b v hbv (nI (0 + sD k + 1)) (va_cpy t (dA (fun _ => 0) 0 k) 0 (0 + sD k) 1) (b + 1) a9 w9 1 t t1 t2 (0 + sD k + 1) (oN (qStandN α (nI k) nO)) (by omega) (by omega)) (cwV 1 hts gX6_census_J4_append_bf812 rfl rfl rfl (by decide +kernel) ⟨Nat.le_of_ble_eq_true rfl, Nat.le_of_ble_eq_true rfl⟩) hK hN hPb hE hS hAB (by omega) rfl rfl (bw_0 G b v (nI (0 + sD k + 1)) (va_cpy t (dA (fun _ => 0) 0 k) 0 (0 + sD k) 1)) rfl hl.1 rfl (Nat.le_of_ble_eq_true rfl) dX6_census_54 ⟨(show 4 * k + 1 + 1 + 0 ≤ 56 by omega), (show 40 * k + 4 + 16 + 0 ≤ 560 by omega)⟩ (fun H5 locs5 hPb hz5 hk5 hS => ?_)
      change W _ _ _ _ _ _ _ _ _ _ _ _ _ _ _ (F0 m 57 ls [.ref b, .ref (G.2.1 0)])
      have hP := hP.kept (fun k9 x9 h9 => hk5 _ (hP k9 x9 h9).lt (hnA k9 x9 h9))
      refine va_ldcS hx hb hown hCM6 dX6_census_57 ?_
      refine oB_cV (q0 := 0) (ci := 1) [.ref a9] [.ref (G.2.1 0)] ⟨hx, hb, hml, hown, hts⟩ (m_J4_append_15ec4 l G b v hbv (nI (0 + sD k + 1 + sD (oN (qStandN α (nI k) nO)))) (dA (va_cpy t (dA (fun _ => 0) 0 k) 0 (0 + sD k) 1) (0 + sD k + 1) (oN (qStandN α (nI k) nO))) (b + 1) a9 w9 1 t t1 t2 (0 + sD k + 1 + sD (oN (qStandN α (nI k) nO))) hfit (by omega)) (cwV 1 hts gX6_census_J4_append_15ec4 rfl rfl rfl (by decide +kernel) ⟨Nat.le_of_ble_eq_true rfl, Nat.le_of_ble_eq_true rfl⟩) hK hN hPb hE hS hAB (by omega) rfl rfl (bw_0 G b v (nI (0 + sD k + 1 + sD (oN (qStandN α (nI k) nO)))) (dA (va_cpy t (dA (fun _ => 0) 0 k) 0 (0 + sD k) 1) (0 + sD k + 1) (oN (qStandN α (nI k) nO)))) rfl hl.1 rfl (Nat.le_of_ble_eq_true rfl) dX6_census_59 ⟨(show 4 * k + 1 + 1 + 0 ≤ 56 by omega), (show 40 * k + 4 + 16 + 0 ≤ 560 by omega)⟩ (fun H6 locs6 hPb hz6 hk6 hS => ?_)
      change W _ _ _ _ _ _ _ _ _ _ _ _ _ _ _ (F0 m 62 ls [.ref b, .ref (G.2.1 0)])
      have hP := hP.kept (fun k9 x9 h9 => hk6 _ (hP k9 x9 h9).lt (hnA k9 x9 h9))
      refine lv_aload_n hx hb dX6_census_62 rfl (lv_at hl 0 rfl) ?_
      refine va_get (D := G.1) (ci := 8) (v := .ref (ms G 0 0)) (C := RX6) (T := TX6) (N := 6) hx hb hts (fun w9 h9 => List.mem_cons_of_mem _ (List.mem_append_left _ (List.mem_append_left _ (List.mem_append_left _ (List.mem_append_right _ (h9)))))) hown hK hP (0) (mw_M G (z3 α β ((mCS α t nO Ax k).1))) rfl 4 (by decide) (hts (.fieldLink RX6 21 "OrganCensusModel" "s" "LOrganCensusModel$State;") (List.mem_of_getElem? (i := 3) rfl)) (fun _ h9 => h9) rfl dX6_census_63 ?_
      refine va_getN (D := G.1) (ci := 7) (v := .ref (ms G 0 4)) (C := RX5) (T := TX5) (N := 21) hx hb hts (fun w9 h9 => List.mem_cons_of_mem _ (List.mem_append_left _ (List.mem_append_left _ (List.mem_append_right _ (h9))))) hown hK hP (3 + 18 * 0 + (0)) (mv_S G (z3 α β ((mCS α t nO Ax k).1)) (show 0 < 2 by decide)) rfl 5 (by decide) (va_Nw.use rfl (hN.1 (RX6, 66, RX5, "given", "[I", RX6) (List.mem_of_getElem? (i := 5) rfl))) (fun _ h9 => h9) rfl dX6_census_66 ?_
      refine lv_iload_n hx hb dX6_census_69 rfl (lv_at hl 1 rfl) ?_
      refine o_iald (k := k) hx hb hK hP (3 + 18 * 0 + (4)) 0 (mv_A4 G (z3 α β ((mCS α t nO Ax k).1)) (show 0 < 2 by decide)) rfl rfl (by omega) (by decide) dX6_census_70 ?_
      change W _ _ _ _ _ _ _ _ _ _ _ _ _ _ _ (F0 m 71 ls [.int (α 4 0 k), .ref b, .ref (G.2.1 0)])
      rw [hgv1]
      refine oB_cV (q0 := 0) (ci := 1) [.int (nI (oN (α 4 0 k)))] [.ref (G.2.1 0)] ⟨hx, hb, hml, hown, hts⟩ (m_J4_append_bf812 l G b v hbv (nI (0 + sD k + 1 + sD (oN (qStandN α (nI k) nO)) + 1)) (va_cpy t (dA (va_cpy t (dA (fun _ => 0) 0 k) 0 (0 + sD k) 1) (0 + sD k + 1) (oN (qStandN α (nI k) nO))) 0 (0 + sD k + 1 + sD (oN (qStandN α (nI k) nO))) 1) (b + 1) a9 w9 1 t t1 t2 (0 + sD k + 1 + sD (oN (qStandN α (nI k) nO)) + 1) (oN (α 4 0 k)) (by omega) (by omega)) (cwV 1 hts gX6_census_J4_append_bf812 rfl rfl rfl (by decide +kernel) ⟨Nat.le_of_ble_eq_true rfl, Nat.le_of_ble_eq_true rfl⟩) hK hN hPb hE hS hAB (by omega) rfl rfl (bw_0 G b v (nI (0 + sD k + 1 + sD (oN (qStandN α (nI k) nO)) + 1)) (va_cpy t (dA (va_cpy t (dA (fun _ => 0) 0 k) 0 (0 + sD k) 1) (0 + sD k + 1) (oN (qStandN α (nI k) nO))) 0 (0 + sD k + 1 + sD (oN (qStandN α (nI k) nO))) 1)) rfl hl.1 rfl (Nat.le_of_ble_eq_true rfl) dX6_census_71 ⟨(show 4 * k + 1 + 1 + 0 ≤ 56 by omega), (show 40 * k + 4 + 16 + 0 ≤ 560 by omega)⟩ (fun H7 locs7 hPb hz7 hk7 hS => ?_)
      change W _ _ _ _ _ _ _ _ _ _ _ _ _ _ _ (F0 m 74 ls [.ref b, .ref (G.2.1 0)])
      have hP := hP.kept (fun k9 x9 h9 => hk7 _ (hP k9 x9 h9).lt (hnA k9 x9 h9))
      have hft := lnT_fit hfit k (oN (qStandN α (nI k) nO)) (oN (α 4 0 k))
      have hPb : va_P G.1 vwCl (bw G b v (nI (lnN k (oN (qStandN α (nI k) nO)) (oN (α 4 0 k)))) (lnT t k (oN (qStandN α (nI k) nO)) (oN (α 4 0 k)))) H7 := hPb
      have hln : lnN k (oN (qStandN α (nI k) nO)) (oN (α 4 0 k)) ≤ 14 := by unfold lnN; omega
      have hsz : sz ≤ H7.size ∧ b < H7.size ∧ v < H7.size := ⟨by have := (hPb 0 _ rfl).lt; omega, (hPb 0 _ rfl).lt, (hPb 1 _ rfl).lt⟩
      obtain ⟨zz, hzz⟩ : ∃ zz, zz = H7.size := ⟨_, rfl⟩
      rw [← hzz] at hsz
      have hMz : ∀ (k9 : Nat) (x9 : Nat × va_E), (mw G (z3 α β ((mCS α t nO Ax k).1)))[k9]? = some x9 → x9.1 < zz := fun k9 x9 h9 => by have := hMb k9 x9 h9; omega
      refine oB_cVx (q0 := 0) (ci := 1) (sz := zz) [] [.ref (G.2.1 0)] ⟨hx, hb, hml, hown, hts⟩ (m_J4_toString l G b v hbv (lnT t k (oN (qStandN α (nI k) nO)) (oN (α 4 0 k))) (lnN k (oN (qStandN α (nI k) nO)) (oN (α 4 0 k))) (by omega) hft zz a9 w9 1 t t1 t2 (by omega) (by omega)) (cwV 0 hts gX6_census_J4_toString_0e30d rfl rfl rfl (by decide +kernel) ⟨Nat.le_of_ble_eq_true rfl, Nat.le_of_ble_eq_true rfl⟩) hK hN hPb hE hS (fun q h => Or.inr (show sz ≤ q from Nat.le_trans hsz.1 h)) (by omega) rfl rfl (bw_0 G b v _ _) rfl hl.1 rfl (Nat.le_of_ble_eq_true rfl) dX6_census_74 ⟨(show 4 * k + 1 + 1 + 2 ≤ 56 by omega), (show 40 * k + 4 + 16 + 20 ≤ 560 by omega)⟩ (fun a7 H8 locs8 hPs hz8 hk8 hS => ?_)
      obtain ⟨ha7, q7, hq7, haq7, hPs⟩ := hPs
      have hP := hP.kept (fun k9 x9 h9 => hk8 _ (hP k9 x9 h9).lt (fun h => absurd (hMz k9 x9 h9) (Nat.not_lt.mpr h)))
      have hnm : ∀ q, zz ≤ q → ¬ mA G q := fun q hq h => by obtain ⟨k9, hk9, e9⟩ := h; have h8 := hMz k9 _ (wl_at hk9 rfl); rw [← e9] at h8; omega
      have hT9 := oSt_of (A := mA G) hts (fun w9 h9 => List.mem_cons_of_mem _ (List.mem_append_right _ (h9))) hK hPs (hnm _ ha7) (hnm _ hq7)
      refine oT_cVn (q0 := 0) (ci := 8) [.ref a7] [] ⟨hx, hb, hml, hown, hts⟩ (m_X6_write l G hI α β ((mCS α t nO Ax k).1) a7 q7 (lnN k (oN (qStandN α (nI k) nO)) (oN (α 4 0 k))) (lnS t k (oN (qStandN α (nI k) nO)) (oN (α 4 0 k))) (by omega) (fun _ _ => pk_nc _) ((mCS α t nO Ax k).2) hpp (by omega)) (cwV 1 hts gX6_census_X6_write rfl rfl rfl (by decide +kernel) ⟨Nat.le_of_ble_eq_true rfl, Nat.le_of_ble_eq_true rfl⟩) hK hN hP hT9 hCM1.1 hS (fun q h => Or.inl h) rfl rfl (mw_M G (z3 α β ((mCS α t nO Ax k).1))) rfl hl.1 rfl (Nat.le_of_ble_eq_true rfl) dX6_census_77 ⟨(show 4 * k + 1 + 1 + 2 ≤ 56 by omega), (show 40 * k + 4 + 16 + 20 ≤ 560 by omega)⟩ (fun H locs hP _ _ hS => ?_)
      refine lv_iinc (v := nI (k + 1)) (lv' := [(1, .int (nI (k + 1))), (0, .ref (G.2.1 0))]) hx hb dX6_census_80 hl (k := 1) rfl (nI_1 k) (by decide) rfl (fun ls hl => ?_)
      refine lv_goto (tgt := 18) hx hb dX6_census_83 (by decide) ?_
      refine o_widen (k := 4 * (k + 1)) (n := 40 * (k + 1)) (by omega) (by omega) ?_
      exact ih (k + 1) (by omega) H locs hP hS ls (lv_sub hl [1, 0] rfl)
  refine lv_aload_n hx hb dX6_census_0 rfl (lv_at hl 0 rfl) ?_
  refine lv_iconst (v := 0) hx hb dX6_census_1 (by decide) ?_
  refine va_put (D := G.1) (ci := 8) (v := .int 0) (ty := .int) (C := RX6) (T := TX6) (N := 6) hx hb hts (fun w9 h9 => List.mem_cons_of_mem _ (List.mem_append_left _ (List.mem_append_left _ (List.mem_append_left _ (List.mem_append_right _ (h9)))))) tyX6 tyX6_ok nmX6 hown hK hP (mN_D hI) hS (0) (mw_M G (z3 α β γ)) rfl 0 (by decide) (hts (.fieldLink RX6 28 "OrganCensusModel" "thrown" "I") (List.mem_of_getElem? (i := 1) rfl)) (fun _ h9 => h9) rfl (by decide +kernel) rfl rfl (Nat.le_of_ble_eq_true rfl) dX6_census_2 (fun H locs hP hD hS => ?_)
  have hP : va_P G.1 vwCl (mw G (z3 α β (su γ 41 0 0 0))) H := by rw [← (mw_zP (a := α) (b := β) (c := γ) (τ' := su γ 41 0 0 0) (mw_uM0 G (z3 α β γ) 0))]; exact hP
  clear hD
  refine lv_aload_n hx hb dX6_census_5 rfl (lv_at hl 0 rfl) ?_
  refine lv_iconst (v := 0) hx hb dX6_census_6 (by decide) ?_
  refine va_put (D := G.1) (ci := 8) (v := .int 0) (ty := .int) (C := RX6) (T := TX6) (N := 6) hx hb hts (fun w9 h9 => List.mem_cons_of_mem _ (List.mem_append_left _ (List.mem_append_left _ (List.mem_append_left _ (List.mem_append_right _ (h9)))))) tyX6 tyX6_ok nmX6 hown hK hP (mN_D hI) hS (0) (mw_M G (z3 α β (su γ 41 0 0 0))) rfl 3 (by decide) (hts (.fieldLink RX6 148 "OrganCensusModel" "papered" "I") (List.mem_of_getElem? (i := 2) rfl)) (fun _ h9 => h9) rfl (by decide +kernel) rfl rfl (Nat.le_of_ble_eq_true rfl) dX6_census_7 (fun H locs hP hD hS => ?_)
  have hP : va_P G.1 vwCl (mw G (z3 α β (su (su γ 41 0 0 0) 41 0 1 0))) H := by rw [← (mw_zP (a := α) (b := β) (c := (su γ 41 0 0 0)) (τ' := su (su γ 41 0 0 0) 41 0 1 0) (mw_uM1 G (z3 α β (su γ 41 0 0 0)) 0))]; exact hP
  clear hD
  refine lv_aload_n hx hb dX6_census_10 rfl (lv_at hl 0 rfl) ?_
  refine va_ldcS hx hb hown hCM4 dX6_census_11 ?_
  refine oT_cVn (q0 := 0) (ci := 8) [.ref a1] [] ⟨hx, hb, hml, hown, hts⟩ (m_X6_write l G hI α β (su (su γ 41 0 0 0) 41 0 1 0) a1 v1 19 f1 (by decide) (fun _ _ => pk_nc _) 0 rfl (by omega)) (cwV 1 hts gX6_census_X6_write rfl rfl rfl (by decide +kernel) ⟨Nat.le_of_ble_eq_true rfl, Nat.le_of_ble_eq_true rfl⟩) hK hN hP (((hCM2).kept hS.2.1).narrow (fun q h => Or.inl h)) hCM1.1 hS (fun q h => Or.inl h) rfl rfl (mw_M G (z3 α β (su (su γ 41 0 0 0) 41 0 1 0))) rfl hl.1 rfl (Nat.le_of_ble_eq_true rfl) dX6_census_13 ⟨(show 0 ≤ 56 by omega), (show 0 ≤ 560 by omega)⟩ (fun H locs hP _ _ hS => ?_)
  have hP : va_P G.1 vwCl (mw G (z3 α β (mCS α t nO Ax 0).1)) H := by show va_P G.1 vwCl (mw G (z3 α β Ax.1)) H; rw [hAx]; exact hP
  refine lv_iconst (v := 0) hx hb dX6_census_16 (by decide) ?_
  refine lv_istore_n (lv' := [(1, .int 0), (0, .ref (G.2.1 0))]) hx hb dX6_census_17 rfl hl (by decide) rfl (fun ls hl => ?_)
  exact lp18 nS 0 (by omega) H locs hP hS ls (lv_sub hl [1, 0] rfl)
