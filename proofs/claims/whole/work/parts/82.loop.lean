/-! The law's loop -/
theorem mT_41 (δ : oT) (k : Nat) : mT δ k 41 0 0 = nI k := su_s _ _ _ _ _
theorem mP_41 (δ : oT) (c j : Nat) (z : Int32) : (if c = 0 then su (mT δ 0) 42 0 j z else mT δ c) 41 0 0 = nI c := by
  by_cases h : c = 0
  · rw [if_pos h, su_k _ _ _ _ (by decide), mT_41, h]
  · rw [if_neg h, mT_41]
def lNx (p : Program) (l : Launch) (e : Env) (s : State) (m : MethodId) (below : List Frame) (meth : Method) (c : Code) (D : va_G) (kl : Nat → ClassId) (b b0 k : Nat) : Prop := ∀ (α β γ τ σ δ : oT) (nS nO nH : Nat) (f : Nat → Int64) (H : Heap) (locs : List Loc), rT α β γ τ δ nS nO nH → nH ≤ 100 * (k + 1) → va_P D vwCl (cw (D, ga b0, kl) (z3 α β γ)) H → va_P D vwCl (mw (D, ga (b0 + 137), kl) (z3 τ σ δ)) H → va_P D vwCl (lw1 (D, ga b0, kl) (b0 + 176) f) H → va_S (sFrom b0) s.heap H locs → b0 + 177 ≤ H.size → ∀ ls : Array Slot, lv_has ls 9 [(0, .ref b), (1, .ref (ga b0 0)), (2, .ref (ga (b0 + 137) 0)), (3, .ref (b0 + 176)), (4, .int (nI (4 * k)))] → W p l e room_1 s m #[Value.ref b] below meth c H locs (177 + 100 * (k + 1)) (3360 + 1100 * (k + 1)) (lw_Z below #[Value.ref b] s) (F0 m 1324 ls [])
set_option maxHeartbeats 16000000 in
set_option maxRecDepth 100000 in
theorem law_c128 {p : Program} {l : Launch} {e : Env} {s : State} {m : MethodId} {below : List Frame} {meth : Method} {c : Code} (hst : l.stackTraces = false) {D : va_G} {kl : Nat → ClassId} {a1 v1 a2 v2 a3 v3 a4 v4 a5 v5 t1 t2 b L b0 : Nat} {xs : Nat → Int32} (hL : L ≤ 2048) (C0 : lw_At p s m meth c b L xs) (hE9 : lwE D kl s a1 v1 a2 v2 a3 v3 a4 v4 a5 v5 t1 t2) (hb0 : b0 = s.heap.size) {k : Nat} (hk4 : 4 * k + 4 ≤ L)
    (nx : lNx p l e s m below meth c D kl b b0 k) {α β γ τ σ δ : oT} {nS nO nH : Nat} {f : Nat → Int64} {H : Heap} {locs : List Loc} (hT : rT α β γ τ δ nS nO nH) (hH : nH ≤ 100 * k) (hPc : va_P D vwCl (cw (D, ga b0, kl) (z3 α β γ)) H) (hPm : va_P D vwCl (mw (D, ga (b0 + 137), kl) (z3 τ σ δ)) H) (hPo : va_P D vwCl (lw1 (D, ga b0, kl) (b0 + 176) f) H) (hS : va_S (sFrom b0) s.heap H locs) (hz : b0 + 177 ≤ H.size) {ls : Array Slot} (hl : lv_has ls 9 [(0, .ref b), (1, .ref (ga b0 0)), (2, .ref (ga (b0 + 137) 0)), (3, .ref (b0 + 176)), (4, .int (nI (4 * k)))]) : W p l e room_1 s m #[Value.ref b] below meth c H locs (177 + 100 * k) (3360 + 1100 * k) (lw_Z below #[Value.ref b] s) (F0 m 128 ls []) := by
  obtain ⟨hx, hb, hr, hml, hown, htb, hX, hbl, hlocks, hgv⟩ := C0
  have hts : ∀ w ∈ wsL_law, w.before #[Value.ref b] s = true := fun w hw => htb w (wsL_law_in w hw)
  have hbA : ¬ sFrom b0 b := fun q => by simp only [sFrom] at q; omega
  have hq : ∀ a : Nat, a < s.heap.size → H[a]? = s.heap[a]? := fun a ha => hS.2.1 a ha (fun q => by simp only [sFrom] at q; omega)
  have hIc : wl_I (ga b0) 137 := ga_I _ _
  have hIm : wl_I (ga (b0 + 137)) 39 := ga_I _ _
  have e0 : (0 : Int32).toNatClampNeg = 0 := by decide
  have i1 : vp_in (nI (4 * k) + 1) L := by rw [nI_1]; exact vp_in_nI (by omega) (by omega)
  have i2 : vp_in (nI (4 * k) + 2) L := by rw [show nI (4 * k) + 2 = nI (4 * k + 2) from nI_add _ 2]; exact vp_in_nI (by omega) (by omega)
  have i3 : vp_in (nI (4 * k) + 3) L := by rw [show nI (4 * k) + 3 = nI (4 * k + 3) from nI_add _ 3]; exact vp_in_nI (by omega) (by omega)
  obtain ⟨x1, hx1⟩ : ∃ x, x = xs (nI (4 * k) + 1).toNatClampNeg := ⟨_, rfl⟩
  obtain ⟨x2, hx2⟩ : ∃ x, x = xs (nI (4 * k) + 2).toNatClampNeg := ⟨_, rfl⟩
  obtain ⟨x3, hx3⟩ : ∃ x, x = xs (nI (4 * k) + 3).toNatClampNeg := ⟨_, rfl⟩
  have hlt : cBuild nS x1 < 4 := by unfold cBuild; (repeat' split) <;> omega
  refine lv_aload_n hx hb dL_law_128 rfl (lv_at hl 1 rfl) ?_
  refine lv_aload_n hx hb dL_law_129 rfl (lv_at hl 0 rfl) ?_
  refine lv_iload hx hb dL_law_130 (lv_at hl 4 rfl) ?_
  refine lv_iconst (v := 1) hx hb dL_law_132 (by decide) ?_
  refine lv_iadd hx hb dL_law_133 ?_
  refine va_sld hx hb hX hbl hbA hS i1 dL_law_134 ?_
  rw [← hx1]
  refine lv_aload_n hx hb dL_law_135 rfl (lv_at hl 3 rfl) ?_
  refine o_call (vx_runSW (As := [.ref (ga b0 0), .int x1, .ref (b0 + 176)]) (rest := []) ⟨hx, hb, hml, hown, hts⟩ (mL_build l hst (D, ga b0, kl) hIc α β γ nS nO nH hT.1 (b0 + 176) f nao x1) (vx_cwSW 3 hts gL_law_L_build rfl rfl rfl (by decide +kernel) ⟨(Nat.le_of_ble_eq_true rfl), (Nat.le_of_ble_eq_true rfl)⟩) ⟨lL_blind, lL_pre hPc hPo (hE9.K _) hE9.N hE9.E hE9.C hq⟩ rfl rfl hl.1 rfl (lv_room (Nat.le_of_ble_eq_true rfl)) dL_law_136 ⟨(show 177 + 100 * k + 1 ≤ 846345 by omega), (show 3360 + 1100 * k + 6 ≤ 6557069 by omega)⟩) hS (fun q _ h => sub_L q h) sub_L (fun H1 locs1 hPH hz1 hk1 hS1 => ?_)
  obtain ⟨hPc1, hPo1⟩ := hPH
  have hPm1 := kp_m hPm hk1
  change W _ _ _ _ _ _ _ _ _ _ _ _ _ _ _ (F0 m 139 ls [.int (nI (cBuild nS x1))])
  refine lv_istore (lv' := [(5, .int (nI (cBuild nS x1))), (0, .ref b), (1, .ref (ga b0 0)), (2, .ref (ga (b0 + 137) 0)), (3, .ref (b0 + 176)), (4, .int (nI (4 * k)))]) hx hb dL_law_139 hl (by decide) rfl (fun ls hl => ?_)
  refine lv_aload_n hx hb dL_law_141 rfl (lv_at hl 3 rfl) ?_
  refine lv_aload_n hx hb dL_law_142 rfl (lv_at hl 1 rfl) ?_
  refine lv_iload hx hb dL_law_143 (lv_at hl 5 rfl) ?_
  refine lv_iconst (v := 1) hx hb dL_law_145 (by decide) ?_
  refine lv_iadd hx hb dL_law_146 ?_
  refine va_sld hx hb hX hbl hbA hS1 i1 dL_law_147 ?_
  rw [← hx1]
  have hM := m_X6_build l (D, ga (b0 + 137), kl) hIm τ σ δ nS nO nH hT.q x1
  refine o_call (va_runV (As := [.int x1]) (rest := []) (b := ga (b0 + 137) 0) ⟨hx, hb, hml, hown, hts⟩ hM (cwV 1 hts gL_law_X6_build rfl rfl rfl (by decide +kernel) ⟨(Nat.le_of_ble_eq_true rfl), (Nat.le_of_ble_eq_true rfl)⟩) ⟨o_blind, va_recv (hE9.K (ga (b0 + 137))) hPm1 (ci := 8) (q0 := 0) rfl (mw_M (D, ga (b0 + 137), kl) _), o_pre hPm1 (hE9.K _) hE9.N⟩ rfl rfl hl.1 rfl (lv_room (Nat.le_of_ble_eq_true rfl)) dL_law_148 ⟨(show 177 + 100 * k + 1 + 0 ≤ 846345 by omega), (show 3360 + 1100 * k + 6 + 0 ≤ 6557069 by omega)⟩) hS1 (fun q _ h => sub_M q h) sub_M (fun H2 locs2 hPm2 hz2 hk2 hS2 => ?_)
  have hPc2 := kp_c (Nat.le_refl (b0 + 177)) hPc1 (kp_AN hk2)
  have hPo2 := kp_o (Nat.le_refl (b0 + 177)) hPo1 (kp_AN hk2)
  change W _ _ _ _ _ _ _ _ _ _ _ _ _ _ _ (F0 m 151 ls [.int (if cBuild nS x1 = 0 then nI nS else 0)])
  refine lv_istore (lv' := [(6, .int (if cBuild nS x1 = 0 then nI nS else 0)), (5, .int (nI (cBuild nS x1))), (0, .ref b), (1, .ref (ga b0 0)), (2, .ref (ga (b0 + 137) 0)), (3, .ref (b0 + 176)), (4, .int (nI (4 * k)))]) hx hb dL_law_151 hl (by decide) rfl (fun ls hl => ?_)
  refine lv_aload_n hx hb dL_law_153 rfl (lv_at hl 4 rfl) ?_
  refine o_cVi (q0 := 0) (ci := 8) [] [] ⟨hx, hb, hml, hown, hts⟩ (m_X6_thrown l (D, ga (b0 + 137), kl) _ _ _) (cwV 0 hts gL_law_X6_thrown rfl rfl rfl (by decide +kernel) ⟨(Nat.le_of_ble_eq_true rfl), (Nat.le_of_ble_eq_true rfl)⟩) (hE9.K _) hE9.N hPm2 rfl rfl (mw_M (D, ga (b0 + 137), kl) _) rfl hl.1 rfl (Nat.le_of_ble_eq_true rfl) dL_law_154 ⟨(show 177 + 100 * k + 1 + 0 ≤ 846345 by omega), (show 3360 + 1100 * k + 6 + 0 ≤ 6557069 by omega)⟩ ?_
  rw [mT_41]
  refine lv_iload hx hb dL_law_157 (lv_at hl 1 rfl) ?_
  refine lv_icmp_eq (tgt := 164) hx hb dL_law_159 (by decide) (fun c7 => ?_) (fun c7 => absurd rfl c7)
  refine lv_iload hx hb dL_law_164 (lv_at hl 1 rfl) ?_
  refine lv_if_ne (tgt := 181) hx hb dL_law_166 (by decide) (fun c8 => ?_) (fun c8 => ?_)
  · have hc : ¬ cBuild nS x1 = 0 := fun h => c8 (by rw [h]; rfl)
    refine lv_goto (tgt := 1324) hx hb dL_law_181 (by decide) ?_
    rw [if_neg hc] at hPc2
    rw [if_neg hc] at hPo2
    rw [if_neg hc] at hPm2
    try rw [if_neg hc] at hPm2
    try rw [if_neg hc] at hPm2
    exact o_widen (k := 177 + 100 * (k + 1)) (n := 3360 + 1100 * (k + 1)) (by omega) (by omega) (nx _ _ _ _ _ _ _ _ _ _ _ _ (rT_mT hT _) (by omega) hPc2 hPm2 hPo2 hS2 (by omega) ls (lv_sub hl [2, 3, 4, 5, 6] rfl))
  · have hc : cBuild nS x1 = 0 := (nI_eq (b := 0) (by omega) (by decide)).mp c8
    refine lv_aload_n hx hb dL_law_169 rfl (lv_at hl 5 rfl) ?_
    refine lv_iconst (v := 0) hx hb dL_law_170 (by decide) ?_
    refine va_lald hx hb (hE9.K (ga b0)) hPo2 0 5 rfl rfl (vp_in_nI (n := 0) (by decide) (by decide)) dL_law_171 ?_
    refine lv_iload hx hb dL_law_172 (lv_at hl 0 rfl) ?_
    refine lv_i2l hx hb dL_law_174 rfl ?_
    rw [if_pos hc] at hPc2
    rw [if_pos hc] at hPo2
    rw [if_pos hc] at hPm2
    try rw [if_pos hc] at hPm2
    try rw [if_pos hc] at hPm2
    try rw [hc] at hPm2
    have hR := hT.build hc
    refine o_lcmp_eq hx hb dL_law_175 (by rw [if_pos hc, if_pos hc, e0, pk_uLs]) ?_
    refine lv_if_eq (tgt := 181) hx hb dL_law_176 (by decide) (fun c9 => ?_) (fun c9 => absurd rfl c9)
    refine lv_goto (tgt := 1324) hx hb dL_law_181 (by decide) ?_
    exact o_widen (k := 177 + 100 * (k + 1)) (n := 3360 + 1100 * (k + 1)) (by omega) (by omega) (nx _ _ _ _ _ _ _ _ _ _ _ _ hR (by have := hH; omega) hPc2 hPm2 hPo2 hS2 (by omega) ls (lv_sub hl [2, 3, 4, 5, 6] rfl))
set_option maxHeartbeats 16000000 in
set_option maxRecDepth 100000 in
theorem law_c184 {p : Program} {l : Launch} {e : Env} {s : State} {m : MethodId} {below : List Frame} {meth : Method} {c : Code} (hst : l.stackTraces = false) {D : va_G} {kl : Nat → ClassId} {a1 v1 a2 v2 a3 v3 a4 v4 a5 v5 t1 t2 b L b0 : Nat} {xs : Nat → Int32} (hL : L ≤ 2048) (C0 : lw_At p s m meth c b L xs) (hE9 : lwE D kl s a1 v1 a2 v2 a3 v3 a4 v4 a5 v5 t1 t2) (hb0 : b0 = s.heap.size) {k : Nat} (hk4 : 4 * k + 4 ≤ L)
    (nx : lNx p l e s m below meth c D kl b b0 k) {α β γ τ σ δ : oT} {nS nO nH : Nat} {f : Nat → Int64} {H : Heap} {locs : List Loc} (hT : rT α β γ τ δ nS nO nH) (hH : nH ≤ 100 * k) (hPc : va_P D vwCl (cw (D, ga b0, kl) (z3 α β γ)) H) (hPm : va_P D vwCl (mw (D, ga (b0 + 137), kl) (z3 τ σ δ)) H) (hPo : va_P D vwCl (lw1 (D, ga b0, kl) (b0 + 176) f) H) (hS : va_S (sFrom b0) s.heap H locs) (hz : b0 + 177 ≤ H.size) {ls : Array Slot} (hl : lv_has ls 9 [(0, .ref b), (1, .ref (ga b0 0)), (2, .ref (ga (b0 + 137) 0)), (3, .ref (b0 + 176)), (4, .int (nI (4 * k)))]) : W p l e room_1 s m #[Value.ref b] below meth c H locs (177 + 100 * k) (3360 + 1100 * k) (lw_Z below #[Value.ref b] s) (F0 m 184 ls []) := by
  obtain ⟨hx, hb, hr, hml, hown, htb, hX, hbl, hlocks, hgv⟩ := C0
  have hts : ∀ w ∈ wsL_law, w.before #[Value.ref b] s = true := fun w hw => htb w (wsL_law_in w hw)
  have hbA : ¬ sFrom b0 b := fun q => by simp only [sFrom] at q; omega
  have hq : ∀ a : Nat, a < s.heap.size → H[a]? = s.heap[a]? := fun a ha => hS.2.1 a ha (fun q => by simp only [sFrom] at q; omega)
  have hIc : wl_I (ga b0) 137 := ga_I _ _
  have hIm : wl_I (ga (b0 + 137)) 39 := ga_I _ _
  have e0 : (0 : Int32).toNatClampNeg = 0 := by decide
  have i1 : vp_in (nI (4 * k) + 1) L := by rw [nI_1]; exact vp_in_nI (by omega) (by omega)
  have i2 : vp_in (nI (4 * k) + 2) L := by rw [show nI (4 * k) + 2 = nI (4 * k + 2) from nI_add _ 2]; exact vp_in_nI (by omega) (by omega)
  have i3 : vp_in (nI (4 * k) + 3) L := by rw [show nI (4 * k) + 3 = nI (4 * k + 3) from nI_add _ 3]; exact vp_in_nI (by omega) (by omega)
  obtain ⟨x1, hx1⟩ : ∃ x, x = xs (nI (4 * k) + 1).toNatClampNeg := ⟨_, rfl⟩
  obtain ⟨x2, hx2⟩ : ∃ x, x = xs (nI (4 * k) + 2).toNatClampNeg := ⟨_, rfl⟩
  obtain ⟨x3, hx3⟩ : ∃ x, x = xs (nI (4 * k) + 3).toNatClampNeg := ⟨_, rfl⟩
  have hlt : cSetP nS x1 x2 x3 < 4 := by unfold cSetP; (repeat' split) <;> omega
  refine lv_aload_n hx hb dL_law_184 rfl (lv_at hl 1 rfl) ?_
  refine lv_aload_n hx hb dL_law_185 rfl (lv_at hl 0 rfl) ?_
  refine lv_iload hx hb dL_law_186 (lv_at hl 4 rfl) ?_
  refine lv_iconst (v := 1) hx hb dL_law_188 (by decide) ?_
  refine lv_iadd hx hb dL_law_189 ?_
  refine va_sld hx hb hX hbl hbA hS i1 dL_law_190 ?_
  rw [← hx1]
  refine lv_aload_n hx hb dL_law_191 rfl (lv_at hl 0 rfl) ?_
  refine lv_iload hx hb dL_law_192 (lv_at hl 4 rfl) ?_
  refine lv_iconst (v := 2) hx hb dL_law_194 (by decide) ?_
  refine lv_iadd hx hb dL_law_195 ?_
  refine va_sld hx hb hX hbl hbA hS i2 dL_law_196 ?_
  rw [← hx2]
  refine lv_aload_n hx hb dL_law_197 rfl (lv_at hl 0 rfl) ?_
  refine lv_iload hx hb dL_law_198 (lv_at hl 4 rfl) ?_
  refine lv_iconst (v := 3) hx hb dL_law_200 (by decide) ?_
  refine lv_iadd hx hb dL_law_201 ?_
  refine va_sld hx hb hX hbl hbA hS i3 dL_law_202 ?_
  rw [← hx3]
  refine lv_aload_n hx hb dL_law_203 rfl (lv_at hl 3 rfl) ?_
  refine o_call (vx_runSW (As := [.ref (ga b0 0), .int x1, .int x2, .int x3, .ref (b0 + 176)]) (rest := []) ⟨hx, hb, hml, hown, hts⟩ (mL_setPassers l hst (D, ga b0, kl) hIc α β γ nS nO nH hT.1 (b0 + 176) f nao x1 x2 x3) (vx_cwSW 5 hts gL_law_L_setPassers rfl rfl rfl (by decide +kernel) ⟨(Nat.le_of_ble_eq_true rfl), (Nat.le_of_ble_eq_true rfl)⟩) ⟨lL_blind, lL_pre hPc hPo (hE9.K _) hE9.N hE9.E hE9.C hq⟩ rfl rfl hl.1 rfl (lv_room (Nat.le_of_ble_eq_true rfl)) dL_law_204 ⟨(show 177 + 100 * k + 1 ≤ 846345 by omega), (show 3360 + 1100 * k + 6 ≤ 6557069 by omega)⟩) hS (fun q _ h => sub_L q h) sub_L (fun H1 locs1 hPH hz1 hk1 hS1 => ?_)
  obtain ⟨hPc1, hPo1⟩ := hPH
  have hPm1 := kp_m hPm hk1
  change W _ _ _ _ _ _ _ _ _ _ _ _ _ _ _ (F0 m 207 ls [.int (nI (cSetP nS x1 x2 x3))])
  refine lv_istore (lv' := [(5, .int (nI (cSetP nS x1 x2 x3))), (0, .ref b), (1, .ref (ga b0 0)), (2, .ref (ga (b0 + 137) 0)), (3, .ref (b0 + 176)), (4, .int (nI (4 * k)))]) hx hb dL_law_207 hl (by decide) rfl (fun ls hl => ?_)
  refine lv_aload_n hx hb dL_law_209 rfl (lv_at hl 3 rfl) ?_
  refine lv_aload_n hx hb dL_law_210 rfl (lv_at hl 1 rfl) ?_
  refine lv_iload hx hb dL_law_211 (lv_at hl 5 rfl) ?_
  refine lv_iconst (v := 1) hx hb dL_law_213 (by decide) ?_
  refine lv_iadd hx hb dL_law_214 ?_
  refine va_sld hx hb hX hbl hbA hS1 i1 dL_law_215 ?_
  rw [← hx1]
  refine lv_aload_n hx hb dL_law_216 rfl (lv_at hl 1 rfl) ?_
  refine lv_iload hx hb dL_law_217 (lv_at hl 5 rfl) ?_
  refine lv_iconst (v := 2) hx hb dL_law_219 (by decide) ?_
  refine lv_iadd hx hb dL_law_220 ?_
  refine va_sld hx hb hX hbl hbA hS1 i2 dL_law_221 ?_
  rw [← hx2]
  refine lv_aload_n hx hb dL_law_222 rfl (lv_at hl 1 rfl) ?_
  refine lv_iload hx hb dL_law_223 (lv_at hl 5 rfl) ?_
  refine lv_iconst (v := 3) hx hb dL_law_225 (by decide) ?_
  refine lv_iadd hx hb dL_law_226 ?_
  refine va_sld hx hb hX hbl hbA hS1 i3 dL_law_227 ?_
  rw [← hx3]
  have hM := m_X6_setPassers l (D, ga (b0 + 137), kl) hIm τ σ δ nS nO nH hT.q x1 x2 x3
  refine o_call (va_runV (As := [.int x1, .int x2, .int x3]) (rest := []) (b := ga (b0 + 137) 0) ⟨hx, hb, hml, hown, hts⟩ hM (cwV 3 hts gL_law_X6_setPassers rfl rfl rfl (by decide +kernel) ⟨(Nat.le_of_ble_eq_true rfl), (Nat.le_of_ble_eq_true rfl)⟩) ⟨o_blind, va_recv (hE9.K (ga (b0 + 137))) hPm1 (ci := 8) (q0 := 0) rfl (mw_M (D, ga (b0 + 137), kl) _), o_pre hPm1 (hE9.K _) hE9.N⟩ rfl rfl hl.1 rfl (lv_room (Nat.le_of_ble_eq_true rfl)) dL_law_228 ⟨(show 177 + 100 * k + 1 + 0 ≤ 846345 by omega), (show 3360 + 1100 * k + 6 + 0 ≤ 6557069 by omega)⟩) hS1 (fun q _ h => sub_M q h) sub_M (fun H2 locs2 hPm2 hz2 hk2 hS2 => ?_)
  have hPc2 := kp_c (Nat.le_refl (b0 + 177)) hPc1 (kp_AN hk2)
  have hPo2 := kp_o (Nat.le_refl (b0 + 177)) hPo1 (kp_AN hk2)
  change W _ _ _ _ _ _ _ _ _ _ _ _ _ _ _ (F0 m 231 ls [.int (if cSetP nS x1 x2 x3 = 0 then δ 42 0 (24 * oN x1 + oN x2) else 0)])
  refine lv_istore (lv' := [(6, .int (if cSetP nS x1 x2 x3 = 0 then δ 42 0 (24 * oN x1 + oN x2) else 0)), (5, .int (nI (cSetP nS x1 x2 x3))), (0, .ref b), (1, .ref (ga b0 0)), (2, .ref (ga (b0 + 137) 0)), (3, .ref (b0 + 176)), (4, .int (nI (4 * k)))]) hx hb dL_law_231 hl (by decide) rfl (fun ls hl => ?_)
  refine lv_aload_n hx hb dL_law_233 rfl (lv_at hl 4 rfl) ?_
  refine o_cVi (q0 := 0) (ci := 8) [] [] ⟨hx, hb, hml, hown, hts⟩ (m_X6_thrown l (D, ga (b0 + 137), kl) _ _ _) (cwV 0 hts gL_law_X6_thrown rfl rfl rfl (by decide +kernel) ⟨(Nat.le_of_ble_eq_true rfl), (Nat.le_of_ble_eq_true rfl)⟩) (hE9.K _) hE9.N hPm2 rfl rfl (mw_M (D, ga (b0 + 137), kl) _) rfl hl.1 rfl (Nat.le_of_ble_eq_true rfl) dL_law_234 ⟨(show 177 + 100 * k + 1 + 0 ≤ 846345 by omega), (show 3360 + 1100 * k + 6 + 0 ≤ 6557069 by omega)⟩ ?_
  rw [mP_41]
  refine lv_iload hx hb dL_law_237 (lv_at hl 1 rfl) ?_
  refine lv_icmp_eq (tgt := 244) hx hb dL_law_239 (by decide) (fun c7 => ?_) (fun c7 => absurd rfl c7)
  refine lv_iload hx hb dL_law_244 (lv_at hl 1 rfl) ?_
  refine lv_if_ne (tgt := 261) hx hb dL_law_246 (by decide) (fun c8 => ?_) (fun c8 => ?_)
  · have hc : ¬ cSetP nS x1 x2 x3 = 0 := fun h => c8 (by rw [h]; rfl)
    refine lv_goto (tgt := 1324) hx hb dL_law_261 (by decide) ?_
    rw [if_neg hc] at hPc2
    rw [if_neg hc] at hPo2
    rw [if_neg hc] at hPm2
    try rw [if_neg hc] at hPm2
    try rw [if_neg hc] at hPm2
    exact o_widen (k := 177 + 100 * (k + 1)) (n := 3360 + 1100 * (k + 1)) (by omega) (by omega) (nx _ _ _ _ _ _ _ _ _ _ _ _ (rT_mT hT _) (by omega) hPc2 hPm2 hPo2 hS2 (by omega) ls (lv_sub hl [2, 3, 4, 5, 6] rfl))
  · have hc : cSetP nS x1 x2 x3 = 0 := (nI_eq (b := 0) (by omega) (by decide)).mp c8
    refine lv_aload_n hx hb dL_law_249 rfl (lv_at hl 5 rfl) ?_
    refine lv_iconst (v := 0) hx hb dL_law_250 (by decide) ?_
    refine va_lald hx hb (hE9.K (ga b0)) hPo2 0 5 rfl rfl (vp_in_nI (n := 0) (by decide) (by decide)) dL_law_251 ?_
    refine lv_iload hx hb dL_law_252 (lv_at hl 0 rfl) ?_
    refine lv_i2l hx hb dL_law_254 rfl ?_
    rw [if_pos hc] at hPc2
    rw [if_pos hc] at hPo2
    rw [if_pos hc] at hPm2
    try rw [if_pos hc] at hPm2
    try rw [if_pos hc] at hPm2
    try rw [hc] at hPm2
    have hR := hT.setP hc
    refine o_lcmp_eq hx hb dL_law_255 (by rw [if_pos hc, if_pos hc, e0, pk_uLs, hR.2]) ?_
    refine lv_if_eq (tgt := 261) hx hb dL_law_256 (by decide) (fun c9 => ?_) (fun c9 => absurd rfl c9)
    refine lv_goto (tgt := 1324) hx hb dL_law_261 (by decide) ?_
    exact o_widen (k := 177 + 100 * (k + 1)) (n := 3360 + 1100 * (k + 1)) (by omega) (by omega) (nx _ _ _ _ _ _ _ _ _ _ _ _ hR.1 (by have := hH; omega) hPc2 hPm2 hPo2 hS2 (by omega) ls (lv_sub hl [2, 3, 4, 5, 6] rfl))
set_option maxHeartbeats 16000000 in
set_option maxRecDepth 100000 in
theorem law_c264 {p : Program} {l : Launch} {e : Env} {s : State} {m : MethodId} {below : List Frame} {meth : Method} {c : Code} (hst : l.stackTraces = false) {D : va_G} {kl : Nat → ClassId} {a1 v1 a2 v2 a3 v3 a4 v4 a5 v5 t1 t2 b L b0 : Nat} {xs : Nat → Int32} (hL : L ≤ 2048) (C0 : lw_At p s m meth c b L xs) (hE9 : lwE D kl s a1 v1 a2 v2 a3 v3 a4 v4 a5 v5 t1 t2) (hb0 : b0 = s.heap.size) {k : Nat} (hk4 : 4 * k + 4 ≤ L)
    (nx : lNx p l e s m below meth c D kl b b0 k) {α β γ τ σ δ : oT} {nS nO nH : Nat} {f : Nat → Int64} {H : Heap} {locs : List Loc} (hT : rT α β γ τ δ nS nO nH) (hH : nH ≤ 100 * k) (hPc : va_P D vwCl (cw (D, ga b0, kl) (z3 α β γ)) H) (hPm : va_P D vwCl (mw (D, ga (b0 + 137), kl) (z3 τ σ δ)) H) (hPo : va_P D vwCl (lw1 (D, ga b0, kl) (b0 + 176) f) H) (hS : va_S (sFrom b0) s.heap H locs) (hz : b0 + 177 ≤ H.size) {ls : Array Slot} (hl : lv_has ls 9 [(0, .ref b), (1, .ref (ga b0 0)), (2, .ref (ga (b0 + 137) 0)), (3, .ref (b0 + 176)), (4, .int (nI (4 * k)))]) : W p l e room_1 s m #[Value.ref b] below meth c H locs (177 + 100 * k) (3360 + 1100 * k) (lw_Z below #[Value.ref b] s) (F0 m 264 ls []) := by
  obtain ⟨hx, hb, hr, hml, hown, htb, hX, hbl, hlocks, hgv⟩ := C0
  have hts : ∀ w ∈ wsL_law, w.before #[Value.ref b] s = true := fun w hw => htb w (wsL_law_in w hw)
  have hbA : ¬ sFrom b0 b := fun q => by simp only [sFrom] at q; omega
  have hq : ∀ a : Nat, a < s.heap.size → H[a]? = s.heap[a]? := fun a ha => hS.2.1 a ha (fun q => by simp only [sFrom] at q; omega)
  have hIc : wl_I (ga b0) 137 := ga_I _ _
  have hIm : wl_I (ga (b0 + 137)) 39 := ga_I _ _
  have e0 : (0 : Int32).toNatClampNeg = 0 := by decide
  have i1 : vp_in (nI (4 * k) + 1) L := by rw [nI_1]; exact vp_in_nI (by omega) (by omega)
  have i2 : vp_in (nI (4 * k) + 2) L := by rw [show nI (4 * k) + 2 = nI (4 * k + 2) from nI_add _ 2]; exact vp_in_nI (by omega) (by omega)
  have i3 : vp_in (nI (4 * k) + 3) L := by rw [show nI (4 * k) + 3 = nI (4 * k + 3) from nI_add _ 3]; exact vp_in_nI (by omega) (by omega)
  obtain ⟨x1, hx1⟩ : ∃ x, x = xs (nI (4 * k) + 1).toNatClampNeg := ⟨_, rfl⟩
  obtain ⟨x2, hx2⟩ : ∃ x, x = xs (nI (4 * k) + 2).toNatClampNeg := ⟨_, rfl⟩
  obtain ⟨x3, hx3⟩ : ∃ x, x = xs (nI (4 * k) + 3).toNatClampNeg := ⟨_, rfl⟩
  have hlt : cSetT nS x1 x2 x3 < 4 := by unfold cSetT; (repeat' split) <;> omega
  refine lv_aload_n hx hb dL_law_264 rfl (lv_at hl 1 rfl) ?_
  refine lv_aload_n hx hb dL_law_265 rfl (lv_at hl 0 rfl) ?_
  refine lv_iload hx hb dL_law_266 (lv_at hl 4 rfl) ?_
  refine lv_iconst (v := 1) hx hb dL_law_268 (by decide) ?_
  refine lv_iadd hx hb dL_law_269 ?_
  refine va_sld hx hb hX hbl hbA hS i1 dL_law_270 ?_
  rw [← hx1]
  refine lv_aload_n hx hb dL_law_271 rfl (lv_at hl 0 rfl) ?_
  refine lv_iload hx hb dL_law_272 (lv_at hl 4 rfl) ?_
  refine lv_iconst (v := 2) hx hb dL_law_274 (by decide) ?_
  refine lv_iadd hx hb dL_law_275 ?_
  refine va_sld hx hb hX hbl hbA hS i2 dL_law_276 ?_
  rw [← hx2]
  refine lv_aload_n hx hb dL_law_277 rfl (lv_at hl 0 rfl) ?_
  refine lv_iload hx hb dL_law_278 (lv_at hl 4 rfl) ?_
  refine lv_iconst (v := 3) hx hb dL_law_280 (by decide) ?_
  refine lv_iadd hx hb dL_law_281 ?_
  refine va_sld hx hb hX hbl hbA hS i3 dL_law_282 ?_
  rw [← hx3]
  refine lv_aload_n hx hb dL_law_283 rfl (lv_at hl 3 rfl) ?_
  refine o_call (vx_runSW (As := [.ref (ga b0 0), .int x1, .int x2, .int x3, .ref (b0 + 176)]) (rest := []) ⟨hx, hb, hml, hown, hts⟩ (mL_setTaste l hst (D, ga b0, kl) hIc α β γ nS nO nH hT.1 (b0 + 176) f nao x1 x2 x3) (vx_cwSW 5 hts gL_law_L_setTaste rfl rfl rfl (by decide +kernel) ⟨(Nat.le_of_ble_eq_true rfl), (Nat.le_of_ble_eq_true rfl)⟩) ⟨lL_blind, lL_pre hPc hPo (hE9.K _) hE9.N hE9.E hE9.C hq⟩ rfl rfl hl.1 rfl (lv_room (Nat.le_of_ble_eq_true rfl)) dL_law_284 ⟨(show 177 + 100 * k + 1 ≤ 846345 by omega), (show 3360 + 1100 * k + 6 ≤ 6557069 by omega)⟩) hS (fun q _ h => sub_L q h) sub_L (fun H1 locs1 hPH hz1 hk1 hS1 => ?_)
  obtain ⟨hPc1, hPo1⟩ := hPH
  have hPm1 := kp_m hPm hk1
  change W _ _ _ _ _ _ _ _ _ _ _ _ _ _ _ (F0 m 287 ls [.int (nI (cSetT nS x1 x2 x3))])
  refine lv_istore (lv' := [(5, .int (nI (cSetT nS x1 x2 x3))), (0, .ref b), (1, .ref (ga b0 0)), (2, .ref (ga (b0 + 137) 0)), (3, .ref (b0 + 176)), (4, .int (nI (4 * k)))]) hx hb dL_law_287 hl (by decide) rfl (fun ls hl => ?_)
  refine lv_aload_n hx hb dL_law_289 rfl (lv_at hl 3 rfl) ?_
  refine lv_aload_n hx hb dL_law_290 rfl (lv_at hl 1 rfl) ?_
  refine lv_iload hx hb dL_law_291 (lv_at hl 5 rfl) ?_
  refine lv_iconst (v := 1) hx hb dL_law_293 (by decide) ?_
  refine lv_iadd hx hb dL_law_294 ?_
  refine va_sld hx hb hX hbl hbA hS1 i1 dL_law_295 ?_
  rw [← hx1]
  refine lv_aload_n hx hb dL_law_296 rfl (lv_at hl 1 rfl) ?_
  refine lv_iload hx hb dL_law_297 (lv_at hl 5 rfl) ?_
  refine lv_iconst (v := 2) hx hb dL_law_299 (by decide) ?_
  refine lv_iadd hx hb dL_law_300 ?_
  refine va_sld hx hb hX hbl hbA hS1 i2 dL_law_301 ?_
  rw [← hx2]
  refine lv_aload_n hx hb dL_law_302 rfl (lv_at hl 1 rfl) ?_
  refine lv_iload hx hb dL_law_303 (lv_at hl 5 rfl) ?_
  refine lv_iconst (v := 3) hx hb dL_law_305 (by decide) ?_
  refine lv_iadd hx hb dL_law_306 ?_
  refine va_sld hx hb hX hbl hbA hS1 i3 dL_law_307 ?_
  rw [← hx3]
  have hM := m_X6_setTaste l (D, ga (b0 + 137), kl) hIm τ σ δ nS nO nH hT.q x1 x2 x3
  refine o_call (va_runV (As := [.int x1, .int x2, .int x3]) (rest := []) (b := ga (b0 + 137) 0) ⟨hx, hb, hml, hown, hts⟩ hM (cwV 3 hts gL_law_X6_setTaste rfl rfl rfl (by decide +kernel) ⟨(Nat.le_of_ble_eq_true rfl), (Nat.le_of_ble_eq_true rfl)⟩) ⟨o_blind, va_recv (hE9.K (ga (b0 + 137))) hPm1 (ci := 8) (q0 := 0) rfl (mw_M (D, ga (b0 + 137), kl) _), o_pre hPm1 (hE9.K _) hE9.N⟩ rfl rfl hl.1 rfl (lv_room (Nat.le_of_ble_eq_true rfl)) dL_law_308 ⟨(show 177 + 100 * k + 1 + 0 ≤ 846345 by omega), (show 3360 + 1100 * k + 6 + 0 ≤ 6557069 by omega)⟩) hS1 (fun q _ h => sub_M q h) sub_M (fun H2 locs2 hPm2 hz2 hk2 hS2 => ?_)
  have hPc2 := kp_c (Nat.le_refl (b0 + 177)) hPc1 (kp_AN hk2)
  have hPo2 := kp_o (Nat.le_refl (b0 + 177)) hPo1 (kp_AN hk2)
  change W _ _ _ _ _ _ _ _ _ _ _ _ _ _ _ (F0 m 311 ls [.int (if cSetT nS x1 x2 x3 = 0 then τ 2 0 (6 * oN x1 + oN x2) else 0)])
  refine lv_istore (lv' := [(6, .int (if cSetT nS x1 x2 x3 = 0 then τ 2 0 (6 * oN x1 + oN x2) else 0)), (5, .int (nI (cSetT nS x1 x2 x3))), (0, .ref b), (1, .ref (ga b0 0)), (2, .ref (ga (b0 + 137) 0)), (3, .ref (b0 + 176)), (4, .int (nI (4 * k)))]) hx hb dL_law_311 hl (by decide) rfl (fun ls hl => ?_)
  refine lv_aload_n hx hb dL_law_313 rfl (lv_at hl 4 rfl) ?_
  refine o_cVi (q0 := 0) (ci := 8) [] [] ⟨hx, hb, hml, hown, hts⟩ (m_X6_thrown l (D, ga (b0 + 137), kl) _ _ _) (cwV 0 hts gL_law_X6_thrown rfl rfl rfl (by decide +kernel) ⟨(Nat.le_of_ble_eq_true rfl), (Nat.le_of_ble_eq_true rfl)⟩) (hE9.K _) hE9.N hPm2 rfl rfl (mw_M (D, ga (b0 + 137), kl) _) rfl hl.1 rfl (Nat.le_of_ble_eq_true rfl) dL_law_314 ⟨(show 177 + 100 * k + 1 + 0 ≤ 846345 by omega), (show 3360 + 1100 * k + 6 + 0 ≤ 6557069 by omega)⟩ ?_
  rw [mT_41]
  refine lv_iload hx hb dL_law_317 (lv_at hl 1 rfl) ?_
  refine lv_icmp_eq (tgt := 324) hx hb dL_law_319 (by decide) (fun c7 => ?_) (fun c7 => absurd rfl c7)
  refine lv_iload hx hb dL_law_324 (lv_at hl 1 rfl) ?_
  refine lv_if_ne (tgt := 341) hx hb dL_law_326 (by decide) (fun c8 => ?_) (fun c8 => ?_)
  · have hc : ¬ cSetT nS x1 x2 x3 = 0 := fun h => c8 (by rw [h]; rfl)
    refine lv_goto (tgt := 1324) hx hb dL_law_341 (by decide) ?_
    rw [if_neg hc] at hPc2
    rw [if_neg hc] at hPo2
    rw [if_neg hc] at hPm2
    try rw [if_neg hc] at hPm2
    try rw [if_neg hc] at hPm2
    exact o_widen (k := 177 + 100 * (k + 1)) (n := 3360 + 1100 * (k + 1)) (by omega) (by omega) (nx _ _ _ _ _ _ _ _ _ _ _ _ (rT_mT hT _) (by omega) hPc2 hPm2 hPo2 hS2 (by omega) ls (lv_sub hl [2, 3, 4, 5, 6] rfl))
  · have hc : cSetT nS x1 x2 x3 = 0 := (nI_eq (b := 0) (by omega) (by decide)).mp c8
    refine lv_aload_n hx hb dL_law_329 rfl (lv_at hl 5 rfl) ?_
    refine lv_iconst (v := 0) hx hb dL_law_330 (by decide) ?_
    refine va_lald hx hb (hE9.K (ga b0)) hPo2 0 5 rfl rfl (vp_in_nI (n := 0) (by decide) (by decide)) dL_law_331 ?_
    refine lv_iload hx hb dL_law_332 (lv_at hl 0 rfl) ?_
    refine lv_i2l hx hb dL_law_334 rfl ?_
    rw [if_pos hc] at hPc2
    rw [if_pos hc] at hPo2
    rw [if_pos hc] at hPm2
    try rw [if_pos hc] at hPm2
    try rw [if_pos hc] at hPm2
    try rw [hc] at hPm2
    have hR := hT.setT hc
    refine o_lcmp_eq hx hb dL_law_335 (by rw [if_pos hc, if_pos hc, e0, pk_uLs, hR.2]) ?_
    refine lv_if_eq (tgt := 341) hx hb dL_law_336 (by decide) (fun c9 => ?_) (fun c9 => absurd rfl c9)
    refine lv_goto (tgt := 1324) hx hb dL_law_341 (by decide) ?_
    exact o_widen (k := 177 + 100 * (k + 1)) (n := 3360 + 1100 * (k + 1)) (by omega) (by omega) (nx _ _ _ _ _ _ _ _ _ _ _ _ hR.1 (by have := hH; omega) hPc2 hPm2 hPo2 hS2 (by omega) ls (lv_sub hl [2, 3, 4, 5, 6] rfl))
set_option maxHeartbeats 16000000 in
set_option maxRecDepth 100000 in
theorem law_c344 {p : Program} {l : Launch} {e : Env} {s : State} {m : MethodId} {below : List Frame} {meth : Method} {c : Code} (hst : l.stackTraces = false) {D : va_G} {kl : Nat → ClassId} {a1 v1 a2 v2 a3 v3 a4 v4 a5 v5 t1 t2 b L b0 : Nat} {xs : Nat → Int32} (hL : L ≤ 2048) (C0 : lw_At p s m meth c b L xs) (hE9 : lwE D kl s a1 v1 a2 v2 a3 v3 a4 v4 a5 v5 t1 t2) (hb0 : b0 = s.heap.size) {k : Nat} (hk4 : 4 * k + 4 ≤ L)
    (nx : lNx p l e s m below meth c D kl b b0 k) {α β γ τ σ δ : oT} {nS nO nH : Nat} {f : Nat → Int64} {H : Heap} {locs : List Loc} (hT : rT α β γ τ δ nS nO nH) (hH : nH ≤ 100 * k) (hPc : va_P D vwCl (cw (D, ga b0, kl) (z3 α β γ)) H) (hPm : va_P D vwCl (mw (D, ga (b0 + 137), kl) (z3 τ σ δ)) H) (hPo : va_P D vwCl (lw1 (D, ga b0, kl) (b0 + 176) f) H) (hS : va_S (sFrom b0) s.heap H locs) (hz : b0 + 177 ≤ H.size) {ls : Array Slot} (hl : lv_has ls 9 [(0, .ref b), (1, .ref (ga b0 0)), (2, .ref (ga (b0 + 137) 0)), (3, .ref (b0 + 176)), (4, .int (nI (4 * k)))]) : W p l e room_1 s m #[Value.ref b] below meth c H locs (177 + 100 * k) (3360 + 1100 * k) (lw_Z below #[Value.ref b] s) (F0 m 344 ls []) := by
  obtain ⟨hx, hb, hr, hml, hown, htb, hX, hbl, hlocks, hgv⟩ := C0
  have hts : ∀ w ∈ wsL_law, w.before #[Value.ref b] s = true := fun w hw => htb w (wsL_law_in w hw)
  have hbA : ¬ sFrom b0 b := fun q => by simp only [sFrom] at q; omega
  have hq : ∀ a : Nat, a < s.heap.size → H[a]? = s.heap[a]? := fun a ha => hS.2.1 a ha (fun q => by simp only [sFrom] at q; omega)
  have hIc : wl_I (ga b0) 137 := ga_I _ _
  have hIm : wl_I (ga (b0 + 137)) 39 := ga_I _ _
  have e0 : (0 : Int32).toNatClampNeg = 0 := by decide
  have i1 : vp_in (nI (4 * k) + 1) L := by rw [nI_1]; exact vp_in_nI (by omega) (by omega)
  have i2 : vp_in (nI (4 * k) + 2) L := by rw [show nI (4 * k) + 2 = nI (4 * k + 2) from nI_add _ 2]; exact vp_in_nI (by omega) (by omega)
  have i3 : vp_in (nI (4 * k) + 3) L := by rw [show nI (4 * k) + 3 = nI (4 * k + 3) from nI_add _ 3]; exact vp_in_nI (by omega) (by omega)
  obtain ⟨x1, hx1⟩ : ∃ x, x = xs (nI (4 * k) + 1).toNatClampNeg := ⟨_, rfl⟩
  obtain ⟨x2, hx2⟩ : ∃ x, x = xs (nI (4 * k) + 2).toNatClampNeg := ⟨_, rfl⟩
  obtain ⟨x3, hx3⟩ : ∃ x, x = xs (nI (4 * k) + 3).toNatClampNeg := ⟨_, rfl⟩
  have hlt : cStreet nS x1 x2 < 4 := by unfold cStreet; (repeat' split) <;> omega
  refine lv_aload_n hx hb dL_law_344 rfl (lv_at hl 1 rfl) ?_
  refine lv_aload_n hx hb dL_law_345 rfl (lv_at hl 0 rfl) ?_
  refine lv_iload hx hb dL_law_346 (lv_at hl 4 rfl) ?_
  refine lv_iconst (v := 1) hx hb dL_law_348 (by decide) ?_
  refine lv_iadd hx hb dL_law_349 ?_
  refine va_sld hx hb hX hbl hbA hS i1 dL_law_350 ?_
  rw [← hx1]
  refine lv_aload_n hx hb dL_law_351 rfl (lv_at hl 0 rfl) ?_
  refine lv_iload hx hb dL_law_352 (lv_at hl 4 rfl) ?_
  refine lv_iconst (v := 2) hx hb dL_law_354 (by decide) ?_
  refine lv_iadd hx hb dL_law_355 ?_
  refine va_sld hx hb hX hbl hbA hS i2 dL_law_356 ?_
  rw [← hx2]
  refine lv_aload_n hx hb dL_law_357 rfl (lv_at hl 3 rfl) ?_
  refine o_call (vx_runSW (As := [.ref (ga b0 0), .int x1, .int x2, .ref (b0 + 176)]) (rest := []) ⟨hx, hb, hml, hown, hts⟩ (mL_street l hst (D, ga b0, kl) hIc α β γ nS nO nH hT.1 (b0 + 176) f nao x1 x2) (vx_cwSW 4 hts gL_law_L_street rfl rfl rfl (by decide +kernel) ⟨(Nat.le_of_ble_eq_true rfl), (Nat.le_of_ble_eq_true rfl)⟩) ⟨lL_blind, lL_pre hPc hPo (hE9.K _) hE9.N hE9.E hE9.C hq⟩ rfl rfl hl.1 rfl (lv_room (Nat.le_of_ble_eq_true rfl)) dL_law_358 ⟨(show 177 + 100 * k + 1 ≤ 846345 by omega), (show 3360 + 1100 * k + 6 ≤ 6557069 by omega)⟩) hS (fun q _ h => sub_L q h) sub_L (fun H1 locs1 hPH hz1 hk1 hS1 => ?_)
  obtain ⟨hPc1, hPo1⟩ := hPH
  have hPm1 := kp_m hPm hk1
  change W _ _ _ _ _ _ _ _ _ _ _ _ _ _ _ (F0 m 361 ls [.int (nI (cStreet nS x1 x2))])
  refine lv_istore (lv' := [(5, .int (nI (cStreet nS x1 x2))), (0, .ref b), (1, .ref (ga b0 0)), (2, .ref (ga (b0 + 137) 0)), (3, .ref (b0 + 176)), (4, .int (nI (4 * k)))]) hx hb dL_law_361 hl (by decide) rfl (fun ls hl => ?_)
  refine lv_aload_n hx hb dL_law_363 rfl (lv_at hl 3 rfl) ?_
  refine lv_aload_n hx hb dL_law_364 rfl (lv_at hl 1 rfl) ?_
  refine lv_iload hx hb dL_law_365 (lv_at hl 5 rfl) ?_
  refine lv_iconst (v := 1) hx hb dL_law_367 (by decide) ?_
  refine lv_iadd hx hb dL_law_368 ?_
  refine va_sld hx hb hX hbl hbA hS1 i1 dL_law_369 ?_
  rw [← hx1]
  refine lv_aload_n hx hb dL_law_370 rfl (lv_at hl 1 rfl) ?_
  refine lv_iload hx hb dL_law_371 (lv_at hl 5 rfl) ?_
  refine lv_iconst (v := 2) hx hb dL_law_373 (by decide) ?_
  refine lv_iadd hx hb dL_law_374 ?_
  refine va_sld hx hb hX hbl hbA hS1 i2 dL_law_375 ?_
  rw [← hx2]
  have hM := m_X6_street l (D, ga (b0 + 137), kl) hIm τ σ δ nS nO nH hT.q x1 x2
  refine o_call (va_runV (As := [.int x1, .int x2]) (rest := []) (b := ga (b0 + 137) 0) ⟨hx, hb, hml, hown, hts⟩ hM (cwV 2 hts gL_law_X6_street rfl rfl rfl (by decide +kernel) ⟨(Nat.le_of_ble_eq_true rfl), (Nat.le_of_ble_eq_true rfl)⟩) ⟨o_blind, va_recv (hE9.K (ga (b0 + 137))) hPm1 (ci := 8) (q0 := 0) rfl (mw_M (D, ga (b0 + 137), kl) _), o_pre hPm1 (hE9.K _) hE9.N⟩ rfl rfl hl.1 rfl (lv_room (Nat.le_of_ble_eq_true rfl)) dL_law_376 ⟨(show 177 + 100 * k + 1 + 0 ≤ 846345 by omega), (show 3360 + 1100 * k + 6 + 0 ≤ 6557069 by omega)⟩) hS1 (fun q _ h => sub_M q h) sub_M (fun H2 locs2 hPm2 hz2 hk2 hS2 => ?_)
  have hPc2 := kp_c (Nat.le_refl (b0 + 177)) hPc1 (kp_AN hk2)
  have hPo2 := kp_o (Nat.le_refl (b0 + 177)) hPo1 (kp_AN hk2)
  change W _ _ _ _ _ _ _ _ _ _ _ _ _ _ _ (F0 m 379 ls [.int (if cStreet nS x1 x2 = 0 then qStT τ δ nO nH (oN x1) (oN x2) else 0)])
  refine lv_istore (lv' := [(6, .int (if cStreet nS x1 x2 = 0 then qStT τ δ nO nH (oN x1) (oN x2) else 0)), (5, .int (nI (cStreet nS x1 x2))), (0, .ref b), (1, .ref (ga b0 0)), (2, .ref (ga (b0 + 137) 0)), (3, .ref (b0 + 176)), (4, .int (nI (4 * k)))]) hx hb dL_law_379 hl (by decide) rfl (fun ls hl => ?_)
  refine lv_aload_n hx hb dL_law_381 rfl (lv_at hl 4 rfl) ?_
  refine o_cVi (q0 := 0) (ci := 8) [] [] ⟨hx, hb, hml, hown, hts⟩ (m_X6_thrown l (D, ga (b0 + 137), kl) _ _ _) (cwV 0 hts gL_law_X6_thrown rfl rfl rfl (by decide +kernel) ⟨(Nat.le_of_ble_eq_true rfl), (Nat.le_of_ble_eq_true rfl)⟩) (hE9.K _) hE9.N hPm2 rfl rfl (mw_M (D, ga (b0 + 137), kl) _) rfl hl.1 rfl (Nat.le_of_ble_eq_true rfl) dL_law_382 ⟨(show 177 + 100 * k + 1 + 0 ≤ 846345 by omega), (show 3360 + 1100 * k + 6 + 0 ≤ 6557069 by omega)⟩ ?_
  rw [mT_41]
  refine lv_iload hx hb dL_law_385 (lv_at hl 1 rfl) ?_
  refine lv_icmp_eq (tgt := 392) hx hb dL_law_387 (by decide) (fun c7 => ?_) (fun c7 => absurd rfl c7)
  refine lv_iload hx hb dL_law_392 (lv_at hl 1 rfl) ?_
  refine lv_if_ne (tgt := 409) hx hb dL_law_394 (by decide) (fun c8 => ?_) (fun c8 => ?_)
  · have hc : ¬ cStreet nS x1 x2 = 0 := fun h => c8 (by rw [h]; rfl)
    refine lv_goto (tgt := 1324) hx hb dL_law_409 (by decide) ?_
    rw [if_neg hc] at hPo2
    exact o_widen (k := 177 + 100 * (k + 1)) (n := 3360 + 1100 * (k + 1)) (by omega) (by omega) (nx _ _ _ _ _ _ _ _ _ _ _ _ (rT_mT hT _) (by omega) hPc2 hPm2 hPo2 hS2 (by omega) ls (lv_sub hl [2, 3, 4, 5, 6] rfl))
  · have hc : cStreet nS x1 x2 = 0 := (nI_eq (b := 0) (by omega) (by decide)).mp c8
    refine lv_aload_n hx hb dL_law_397 rfl (lv_at hl 5 rfl) ?_
    refine lv_iconst (v := 0) hx hb dL_law_398 (by decide) ?_
    refine va_lald hx hb (hE9.K (ga b0)) hPo2 0 5 rfl rfl (vp_in_nI (n := 0) (by decide) (by decide)) dL_law_399 ?_
    refine lv_iload hx hb dL_law_400 (lv_at hl 0 rfl) ?_
    refine lv_i2l hx hb dL_law_402 rfl ?_
    rw [if_pos hc] at hPo2
    have hR := hT.street hc
    refine o_lcmp_eq hx hb dL_law_403 (by rw [if_pos hc, if_pos hc, e0, pk_uLs, hR]) ?_
    refine lv_if_eq (tgt := 409) hx hb dL_law_404 (by decide) (fun c9 => ?_) (fun c9 => absurd rfl c9)
    refine lv_goto (tgt := 1324) hx hb dL_law_409 (by decide) ?_
    exact o_widen (k := 177 + 100 * (k + 1)) (n := 3360 + 1100 * (k + 1)) (by omega) (by omega) (nx _ _ _ _ _ _ _ _ _ _ _ _ (rT_mT hT _) (by have := hH; omega) hPc2 hPm2 hPo2 hS2 (by omega) ls (lv_sub hl [2, 3, 4, 5, 6] rfl))
set_option maxHeartbeats 16000000 in
set_option maxRecDepth 100000 in
theorem law_c412 {p : Program} {l : Launch} {e : Env} {s : State} {m : MethodId} {below : List Frame} {meth : Method} {c : Code} (hst : l.stackTraces = false) {D : va_G} {kl : Nat → ClassId} {a1 v1 a2 v2 a3 v3 a4 v4 a5 v5 t1 t2 b L b0 : Nat} {xs : Nat → Int32} (hL : L ≤ 2048) (C0 : lw_At p s m meth c b L xs) (hE9 : lwE D kl s a1 v1 a2 v2 a3 v3 a4 v4 a5 v5 t1 t2) (hb0 : b0 = s.heap.size) {k : Nat} (hk4 : 4 * k + 4 ≤ L)
    (nx : lNx p l e s m below meth c D kl b b0 k) {α β γ τ σ δ : oT} {nS nO nH : Nat} {f : Nat → Int64} {H : Heap} {locs : List Loc} (hT : rT α β γ τ δ nS nO nH) (hH : nH ≤ 100 * k) (hPc : va_P D vwCl (cw (D, ga b0, kl) (z3 α β γ)) H) (hPm : va_P D vwCl (mw (D, ga (b0 + 137), kl) (z3 τ σ δ)) H) (hPo : va_P D vwCl (lw1 (D, ga b0, kl) (b0 + 176) f) H) (hS : va_S (sFrom b0) s.heap H locs) (hz : b0 + 177 ≤ H.size) {ls : Array Slot} (hl : lv_has ls 9 [(0, .ref b), (1, .ref (ga b0 0)), (2, .ref (ga (b0 + 137) 0)), (3, .ref (b0 + 176)), (4, .int (nI (4 * k)))]) : W p l e room_1 s m #[Value.ref b] below meth c H locs (177 + 100 * k) (3360 + 1100 * k) (lw_Z below #[Value.ref b] s) (F0 m 412 ls []) := by
  obtain ⟨hx, hb, hr, hml, hown, htb, hX, hbl, hlocks, hgv⟩ := C0
  have hts : ∀ w ∈ wsL_law, w.before #[Value.ref b] s = true := fun w hw => htb w (wsL_law_in w hw)
  have hbA : ¬ sFrom b0 b := fun q => by simp only [sFrom] at q; omega
  have hq : ∀ a : Nat, a < s.heap.size → H[a]? = s.heap[a]? := fun a ha => hS.2.1 a ha (fun q => by simp only [sFrom] at q; omega)
  have hIc : wl_I (ga b0) 137 := ga_I _ _
  have hIm : wl_I (ga (b0 + 137)) 39 := ga_I _ _
  have e0 : (0 : Int32).toNatClampNeg = 0 := by decide
  have i1 : vp_in (nI (4 * k) + 1) L := by rw [nI_1]; exact vp_in_nI (by omega) (by omega)
  have i2 : vp_in (nI (4 * k) + 2) L := by rw [show nI (4 * k) + 2 = nI (4 * k + 2) from nI_add _ 2]; exact vp_in_nI (by omega) (by omega)
  have i3 : vp_in (nI (4 * k) + 3) L := by rw [show nI (4 * k) + 3 = nI (4 * k + 3) from nI_add _ 3]; exact vp_in_nI (by omega) (by omega)
  obtain ⟨x1, hx1⟩ : ∃ x, x = xs (nI (4 * k) + 1).toNatClampNeg := ⟨_, rfl⟩
  obtain ⟨x2, hx2⟩ : ∃ x, x = xs (nI (4 * k) + 2).toNatClampNeg := ⟨_, rfl⟩
  obtain ⟨x3, hx3⟩ : ∃ x, x = xs (nI (4 * k) + 3).toNatClampNeg := ⟨_, rfl⟩
  have hlt : cEar nS x1 x2 < 4 := by unfold cEar; (repeat' split) <;> omega
  refine lv_aload_n hx hb dL_law_412 rfl (lv_at hl 1 rfl) ?_
  refine lv_aload_n hx hb dL_law_413 rfl (lv_at hl 0 rfl) ?_
  refine lv_iload hx hb dL_law_414 (lv_at hl 4 rfl) ?_
  refine lv_iconst (v := 1) hx hb dL_law_416 (by decide) ?_
  refine lv_iadd hx hb dL_law_417 ?_
  refine va_sld hx hb hX hbl hbA hS i1 dL_law_418 ?_
  rw [← hx1]
  refine lv_aload_n hx hb dL_law_419 rfl (lv_at hl 0 rfl) ?_
  refine lv_iload hx hb dL_law_420 (lv_at hl 4 rfl) ?_
  refine lv_iconst (v := 2) hx hb dL_law_422 (by decide) ?_
  refine lv_iadd hx hb dL_law_423 ?_
  refine va_sld hx hb hX hbl hbA hS i2 dL_law_424 ?_
  rw [← hx2]
  refine lv_aload_n hx hb dL_law_425 rfl (lv_at hl 0 rfl) ?_
  refine lv_iload hx hb dL_law_426 (lv_at hl 4 rfl) ?_
  refine lv_iconst (v := 3) hx hb dL_law_428 (by decide) ?_
  refine lv_iadd hx hb dL_law_429 ?_
  refine va_sld hx hb hX hbl hbA hS i3 dL_law_430 ?_
  rw [← hx3]
  refine lv_if_eq (tgt := 438) hx hb dL_law_431 (by decide) (fun c3 => ?_) (fun c3 => ?_)
  · refine lv_iconst (v := 0) hx hb dL_law_438 (by decide) ?_
    refine lv_aload_n hx hb dL_law_439 rfl (lv_at hl 3 rfl) ?_
    refine o_call (vx_runSW (As := [.ref (ga b0 0), .int x1, .int x2, .int (bI false), .ref (b0 + 176)]) (rest := []) ⟨hx, hb, hml, hown, hts⟩ (mL_ear l hst (D, ga b0, kl) hIc α β γ nS nO nH hT.1 (b0 + 176) f nao x1 x2 false) (vx_cwSW 5 hts gL_law_L_ear rfl rfl rfl (by decide +kernel) ⟨(Nat.le_of_ble_eq_true rfl), (Nat.le_of_ble_eq_true rfl)⟩) ⟨lL_blind, lL_pre hPc hPo (hE9.K _) hE9.N hE9.E hE9.C hq⟩ rfl rfl hl.1 rfl (lv_room (Nat.le_of_ble_eq_true rfl)) dL_law_440 ⟨(show 177 + 100 * k + 1 ≤ 846345 by omega), (show 3360 + 1100 * k + 6 ≤ 6557069 by omega)⟩) hS (fun q _ h => sub_L q h) sub_L (fun H1 locs1 hPH hz1 hk1 hS1 => ?_)
    obtain ⟨hPc1, hPo1⟩ := hPH
    have hPm1 := kp_m hPm hk1
    change W _ _ _ _ _ _ _ _ _ _ _ _ _ _ _ (F0 m 443 ls [.int (nI (cEar nS x1 x2))])
    refine lv_istore (lv' := [(5, .int (nI (cEar nS x1 x2))), (0, .ref b), (1, .ref (ga b0 0)), (2, .ref (ga (b0 + 137) 0)), (3, .ref (b0 + 176)), (4, .int (nI (4 * k)))]) hx hb dL_law_443 hl (by decide) rfl (fun ls hl => ?_)
    refine lv_aload_n hx hb dL_law_445 rfl (lv_at hl 3 rfl) ?_
    refine lv_aload_n hx hb dL_law_446 rfl (lv_at hl 1 rfl) ?_
    refine lv_iload hx hb dL_law_447 (lv_at hl 5 rfl) ?_
    refine lv_iconst (v := 1) hx hb dL_law_449 (by decide) ?_
    refine lv_iadd hx hb dL_law_450 ?_
    refine va_sld hx hb hX hbl hbA hS1 i1 dL_law_451 ?_
    rw [← hx1]
    refine lv_aload_n hx hb dL_law_452 rfl (lv_at hl 1 rfl) ?_
    refine lv_iload hx hb dL_law_453 (lv_at hl 5 rfl) ?_
    refine lv_iconst (v := 2) hx hb dL_law_455 (by decide) ?_
    refine lv_iadd hx hb dL_law_456 ?_
    refine va_sld hx hb hX hbl hbA hS1 i2 dL_law_457 ?_
    rw [← hx2]
    refine lv_aload_n hx hb dL_law_458 rfl (lv_at hl 1 rfl) ?_
    refine lv_iload hx hb dL_law_459 (lv_at hl 5 rfl) ?_
    refine lv_iconst (v := 3) hx hb dL_law_461 (by decide) ?_
    refine lv_iadd hx hb dL_law_462 ?_
    refine va_sld hx hb hX hbl hbA hS1 i3 dL_law_463 ?_
    rw [← hx3]
    refine lv_if_eq (tgt := 471) hx hb dL_law_464 (by decide) (fun c7 => ?_) (fun c7 => ?_)
    case refine_2 => exact absurd c3 c7
    refine lv_iconst (v := 0) hx hb dL_law_471 (by decide) ?_
    have hM := m_X6_ear l (D, ga (b0 + 137), kl) hIm τ σ δ nS nO nH hT.q x1 x2 false
    refine o_call (va_runV (As := [.int x1, .int x2, .int (bI false)]) (rest := []) (b := ga (b0 + 137) 0) ⟨hx, hb, hml, hown, hts⟩ hM (cwV 3 hts gL_law_X6_ear rfl rfl rfl (by decide +kernel) ⟨(Nat.le_of_ble_eq_true rfl), (Nat.le_of_ble_eq_true rfl)⟩) ⟨o_blind, va_recv (hE9.K (ga (b0 + 137))) hPm1 (ci := 8) (q0 := 0) rfl (mw_M (D, ga (b0 + 137), kl) _), o_pre hPm1 (hE9.K _) hE9.N⟩ rfl rfl hl.1 rfl (lv_room (Nat.le_of_ble_eq_true rfl)) dL_law_472 ⟨(show 177 + 100 * k + 1 + 0 ≤ 846345 by omega), (show 3360 + 1100 * k + 6 + 0 ≤ 6557069 by omega)⟩) hS1 (fun q _ h => sub_M q h) sub_M (fun H2 locs2 hPm2 hz2 hk2 hS2 => ?_)
    have hPc2 := kp_c (Nat.le_refl (b0 + 177)) hPc1 (kp_AN hk2)
    have hPo2 := kp_o (Nat.le_refl (b0 + 177)) hPo1 (kp_AN hk2)
    change W _ _ _ _ _ _ _ _ _ _ _ _ _ _ _ (F0 m 475 ls [.int (if cEar nS x1 x2 = 0 then (if false = true then τ 2 0 (6 * oN x1 + oN x2) else τ 3 0 (6 * oN x1 + oN x2)) else 0)])
    refine lv_istore (lv' := [(6, .int (if cEar nS x1 x2 = 0 then (if false = true then τ 2 0 (6 * oN x1 + oN x2) else τ 3 0 (6 * oN x1 + oN x2)) else 0)), (5, .int (nI (cEar nS x1 x2))), (0, .ref b), (1, .ref (ga b0 0)), (2, .ref (ga (b0 + 137) 0)), (3, .ref (b0 + 176)), (4, .int (nI (4 * k)))]) hx hb dL_law_475 hl (by decide) rfl (fun ls hl => ?_)
    refine lv_aload_n hx hb dL_law_477 rfl (lv_at hl 4 rfl) ?_
    refine o_cVi (q0 := 0) (ci := 8) [] [] ⟨hx, hb, hml, hown, hts⟩ (m_X6_thrown l (D, ga (b0 + 137), kl) _ _ _) (cwV 0 hts gL_law_X6_thrown rfl rfl rfl (by decide +kernel) ⟨(Nat.le_of_ble_eq_true rfl), (Nat.le_of_ble_eq_true rfl)⟩) (hE9.K _) hE9.N hPm2 rfl rfl (mw_M (D, ga (b0 + 137), kl) _) rfl hl.1 rfl (Nat.le_of_ble_eq_true rfl) dL_law_478 ⟨(show 177 + 100 * k + 1 + 0 ≤ 846345 by omega), (show 3360 + 1100 * k + 6 + 0 ≤ 6557069 by omega)⟩ ?_
    rw [mT_41]
    refine lv_iload hx hb dL_law_481 (lv_at hl 1 rfl) ?_
    refine lv_icmp_eq (tgt := 488) hx hb dL_law_483 (by decide) (fun c7 => ?_) (fun c7 => absurd rfl c7)
    refine lv_iload hx hb dL_law_488 (lv_at hl 1 rfl) ?_
    refine lv_if_ne (tgt := 505) hx hb dL_law_490 (by decide) (fun c8 => ?_) (fun c8 => ?_)
    · have hc : ¬ cEar nS x1 x2 = 0 := fun h => c8 (by rw [h]; rfl)
      refine lv_goto (tgt := 1324) hx hb dL_law_505 (by decide) ?_
      rw [if_neg hc] at hPo2
      exact o_widen (k := 177 + 100 * (k + 1)) (n := 3360 + 1100 * (k + 1)) (by omega) (by omega) (nx _ _ _ _ _ _ _ _ _ _ _ _ (rT_mT hT _) (by omega) hPc2 hPm2 hPo2 hS2 (by omega) ls (lv_sub hl [2, 3, 4, 5, 6] rfl))
    · have hc : cEar nS x1 x2 = 0 := (nI_eq (b := 0) (by omega) (by decide)).mp c8
      refine lv_aload_n hx hb dL_law_493 rfl (lv_at hl 5 rfl) ?_
      refine lv_iconst (v := 0) hx hb dL_law_494 (by decide) ?_
      refine va_lald hx hb (hE9.K (ga b0)) hPo2 0 5 rfl rfl (vp_in_nI (n := 0) (by decide) (by decide)) dL_law_495 ?_
      refine lv_iload hx hb dL_law_496 (lv_at hl 0 rfl) ?_
      refine lv_i2l hx hb dL_law_498 rfl ?_
      rw [if_pos hc] at hPo2
      have hR := hT.ear false hc
      refine o_lcmp_eq hx hb dL_law_499 (by rw [if_pos hc, if_pos hc, e0, pk_uLs, hR]) ?_
      refine lv_if_eq (tgt := 505) hx hb dL_law_500 (by decide) (fun c9 => ?_) (fun c9 => absurd rfl c9)
      refine lv_goto (tgt := 1324) hx hb dL_law_505 (by decide) ?_
      exact o_widen (k := 177 + 100 * (k + 1)) (n := 3360 + 1100 * (k + 1)) (by omega) (by omega) (nx _ _ _ _ _ _ _ _ _ _ _ _ (rT_mT hT _) (by have := hH; omega) hPc2 hPm2 hPo2 hS2 (by omega) ls (lv_sub hl [2, 3, 4, 5, 6] rfl))
  · refine lv_iconst (v := 1) hx hb dL_law_434 (by decide) ?_
    refine lv_goto (tgt := 439) hx hb dL_law_435 (by decide) ?_
    refine lv_aload_n hx hb dL_law_439 rfl (lv_at hl 3 rfl) ?_
    refine o_call (vx_runSW (As := [.ref (ga b0 0), .int x1, .int x2, .int (bI true), .ref (b0 + 176)]) (rest := []) ⟨hx, hb, hml, hown, hts⟩ (mL_ear l hst (D, ga b0, kl) hIc α β γ nS nO nH hT.1 (b0 + 176) f nao x1 x2 true) (vx_cwSW 5 hts gL_law_L_ear rfl rfl rfl (by decide +kernel) ⟨(Nat.le_of_ble_eq_true rfl), (Nat.le_of_ble_eq_true rfl)⟩) ⟨lL_blind, lL_pre hPc hPo (hE9.K _) hE9.N hE9.E hE9.C hq⟩ rfl rfl hl.1 rfl (lv_room (Nat.le_of_ble_eq_true rfl)) dL_law_440 ⟨(show 177 + 100 * k + 1 ≤ 846345 by omega), (show 3360 + 1100 * k + 6 ≤ 6557069 by omega)⟩) hS (fun q _ h => sub_L q h) sub_L (fun H1 locs1 hPH hz1 hk1 hS1 => ?_)
    obtain ⟨hPc1, hPo1⟩ := hPH
    have hPm1 := kp_m hPm hk1
    change W _ _ _ _ _ _ _ _ _ _ _ _ _ _ _ (F0 m 443 ls [.int (nI (cEar nS x1 x2))])
    refine lv_istore (lv' := [(5, .int (nI (cEar nS x1 x2))), (0, .ref b), (1, .ref (ga b0 0)), (2, .ref (ga (b0 + 137) 0)), (3, .ref (b0 + 176)), (4, .int (nI (4 * k)))]) hx hb dL_law_443 hl (by decide) rfl (fun ls hl => ?_)
    refine lv_aload_n hx hb dL_law_445 rfl (lv_at hl 3 rfl) ?_
    refine lv_aload_n hx hb dL_law_446 rfl (lv_at hl 1 rfl) ?_
    refine lv_iload hx hb dL_law_447 (lv_at hl 5 rfl) ?_
    refine lv_iconst (v := 1) hx hb dL_law_449 (by decide) ?_
    refine lv_iadd hx hb dL_law_450 ?_
    refine va_sld hx hb hX hbl hbA hS1 i1 dL_law_451 ?_
    rw [← hx1]
    refine lv_aload_n hx hb dL_law_452 rfl (lv_at hl 1 rfl) ?_
    refine lv_iload hx hb dL_law_453 (lv_at hl 5 rfl) ?_
    refine lv_iconst (v := 2) hx hb dL_law_455 (by decide) ?_
    refine lv_iadd hx hb dL_law_456 ?_
    refine va_sld hx hb hX hbl hbA hS1 i2 dL_law_457 ?_
    rw [← hx2]
    refine lv_aload_n hx hb dL_law_458 rfl (lv_at hl 1 rfl) ?_
    refine lv_iload hx hb dL_law_459 (lv_at hl 5 rfl) ?_
    refine lv_iconst (v := 3) hx hb dL_law_461 (by decide) ?_
    refine lv_iadd hx hb dL_law_462 ?_
    refine va_sld hx hb hX hbl hbA hS1 i3 dL_law_463 ?_
    rw [← hx3]
    refine lv_if_eq (tgt := 471) hx hb dL_law_464 (by decide) (fun c7 => ?_) (fun c7 => ?_)
    case refine_1 => exact absurd c7 c3
    refine lv_iconst (v := 1) hx hb dL_law_467 (by decide) ?_
    refine lv_goto (tgt := 472) hx hb dL_law_468 (by decide) ?_
    have hM := m_X6_ear l (D, ga (b0 + 137), kl) hIm τ σ δ nS nO nH hT.q x1 x2 true
    refine o_call (va_runV (As := [.int x1, .int x2, .int (bI true)]) (rest := []) (b := ga (b0 + 137) 0) ⟨hx, hb, hml, hown, hts⟩ hM (cwV 3 hts gL_law_X6_ear rfl rfl rfl (by decide +kernel) ⟨(Nat.le_of_ble_eq_true rfl), (Nat.le_of_ble_eq_true rfl)⟩) ⟨o_blind, va_recv (hE9.K (ga (b0 + 137))) hPm1 (ci := 8) (q0 := 0) rfl (mw_M (D, ga (b0 + 137), kl) _), o_pre hPm1 (hE9.K _) hE9.N⟩ rfl rfl hl.1 rfl (lv_room (Nat.le_of_ble_eq_true rfl)) dL_law_472 ⟨(show 177 + 100 * k + 1 + 0 ≤ 846345 by omega), (show 3360 + 1100 * k + 6 + 0 ≤ 6557069 by omega)⟩) hS1 (fun q _ h => sub_M q h) sub_M (fun H2 locs2 hPm2 hz2 hk2 hS2 => ?_)
    have hPc2 := kp_c (Nat.le_refl (b0 + 177)) hPc1 (kp_AN hk2)
    have hPo2 := kp_o (Nat.le_refl (b0 + 177)) hPo1 (kp_AN hk2)
    change W _ _ _ _ _ _ _ _ _ _ _ _ _ _ _ (F0 m 475 ls [.int (if cEar nS x1 x2 = 0 then (if true = true then τ 2 0 (6 * oN x1 + oN x2) else τ 3 0 (6 * oN x1 + oN x2)) else 0)])
    refine lv_istore (lv' := [(6, .int (if cEar nS x1 x2 = 0 then (if true = true then τ 2 0 (6 * oN x1 + oN x2) else τ 3 0 (6 * oN x1 + oN x2)) else 0)), (5, .int (nI (cEar nS x1 x2))), (0, .ref b), (1, .ref (ga b0 0)), (2, .ref (ga (b0 + 137) 0)), (3, .ref (b0 + 176)), (4, .int (nI (4 * k)))]) hx hb dL_law_475 hl (by decide) rfl (fun ls hl => ?_)
    refine lv_aload_n hx hb dL_law_477 rfl (lv_at hl 4 rfl) ?_
    refine o_cVi (q0 := 0) (ci := 8) [] [] ⟨hx, hb, hml, hown, hts⟩ (m_X6_thrown l (D, ga (b0 + 137), kl) _ _ _) (cwV 0 hts gL_law_X6_thrown rfl rfl rfl (by decide +kernel) ⟨(Nat.le_of_ble_eq_true rfl), (Nat.le_of_ble_eq_true rfl)⟩) (hE9.K _) hE9.N hPm2 rfl rfl (mw_M (D, ga (b0 + 137), kl) _) rfl hl.1 rfl (Nat.le_of_ble_eq_true rfl) dL_law_478 ⟨(show 177 + 100 * k + 1 + 0 ≤ 846345 by omega), (show 3360 + 1100 * k + 6 + 0 ≤ 6557069 by omega)⟩ ?_
    rw [mT_41]
    refine lv_iload hx hb dL_law_481 (lv_at hl 1 rfl) ?_
    refine lv_icmp_eq (tgt := 488) hx hb dL_law_483 (by decide) (fun c7 => ?_) (fun c7 => absurd rfl c7)
    refine lv_iload hx hb dL_law_488 (lv_at hl 1 rfl) ?_
    refine lv_if_ne (tgt := 505) hx hb dL_law_490 (by decide) (fun c8 => ?_) (fun c8 => ?_)
    · have hc : ¬ cEar nS x1 x2 = 0 := fun h => c8 (by rw [h]; rfl)
      refine lv_goto (tgt := 1324) hx hb dL_law_505 (by decide) ?_
      rw [if_neg hc] at hPo2
      exact o_widen (k := 177 + 100 * (k + 1)) (n := 3360 + 1100 * (k + 1)) (by omega) (by omega) (nx _ _ _ _ _ _ _ _ _ _ _ _ (rT_mT hT _) (by omega) hPc2 hPm2 hPo2 hS2 (by omega) ls (lv_sub hl [2, 3, 4, 5, 6] rfl))
    · have hc : cEar nS x1 x2 = 0 := (nI_eq (b := 0) (by omega) (by decide)).mp c8
      refine lv_aload_n hx hb dL_law_493 rfl (lv_at hl 5 rfl) ?_
      refine lv_iconst (v := 0) hx hb dL_law_494 (by decide) ?_
      refine va_lald hx hb (hE9.K (ga b0)) hPo2 0 5 rfl rfl (vp_in_nI (n := 0) (by decide) (by decide)) dL_law_495 ?_
      refine lv_iload hx hb dL_law_496 (lv_at hl 0 rfl) ?_
      refine lv_i2l hx hb dL_law_498 rfl ?_
      rw [if_pos hc] at hPo2
      have hR := hT.ear true hc
      refine o_lcmp_eq hx hb dL_law_499 (by rw [if_pos hc, if_pos hc, e0, pk_uLs, hR]) ?_
      refine lv_if_eq (tgt := 505) hx hb dL_law_500 (by decide) (fun c9 => ?_) (fun c9 => absurd rfl c9)
      refine lv_goto (tgt := 1324) hx hb dL_law_505 (by decide) ?_
      exact o_widen (k := 177 + 100 * (k + 1)) (n := 3360 + 1100 * (k + 1)) (by omega) (by omega) (nx _ _ _ _ _ _ _ _ _ _ _ _ (rT_mT hT _) (by have := hH; omega) hPc2 hPm2 hPo2 hS2 (by omega) ls (lv_sub hl [2, 3, 4, 5, 6] rfl))
set_option maxHeartbeats 16000000 in
set_option maxRecDepth 100000 in
theorem law_c508 {p : Program} {l : Launch} {e : Env} {s : State} {m : MethodId} {below : List Frame} {meth : Method} {c : Code} (hst : l.stackTraces = false) {D : va_G} {kl : Nat → ClassId} {a1 v1 a2 v2 a3 v3 a4 v4 a5 v5 t1 t2 b L b0 : Nat} {xs : Nat → Int32} (hL : L ≤ 2048) (C0 : lw_At p s m meth c b L xs) (hE9 : lwE D kl s a1 v1 a2 v2 a3 v3 a4 v4 a5 v5 t1 t2) (hb0 : b0 = s.heap.size) {k : Nat} (hk4 : 4 * k + 4 ≤ L)
    (nx : lNx p l e s m below meth c D kl b b0 k) {α β γ τ σ δ : oT} {nS nO nH : Nat} {f : Nat → Int64} {H : Heap} {locs : List Loc} (hT : rT α β γ τ δ nS nO nH) (hH : nH ≤ 100 * k) (hPc : va_P D vwCl (cw (D, ga b0, kl) (z3 α β γ)) H) (hPm : va_P D vwCl (mw (D, ga (b0 + 137), kl) (z3 τ σ δ)) H) (hPo : va_P D vwCl (lw1 (D, ga b0, kl) (b0 + 176) f) H) (hS : va_S (sFrom b0) s.heap H locs) (hz : b0 + 177 ≤ H.size) {ls : Array Slot} (hl : lv_has ls 9 [(0, .ref b), (1, .ref (ga b0 0)), (2, .ref (ga (b0 + 137) 0)), (3, .ref (b0 + 176)), (4, .int (nI (4 * k)))]) : W p l e room_1 s m #[Value.ref b] below meth c H locs (177 + 100 * k) (3360 + 1100 * k) (lw_Z below #[Value.ref b] s) (F0 m 508 ls []) := by
  obtain ⟨hx, hb, hr, hml, hown, htb, hX, hbl, hlocks, hgv⟩ := C0
  have hts : ∀ w ∈ wsL_law, w.before #[Value.ref b] s = true := fun w hw => htb w (wsL_law_in w hw)
  have hbA : ¬ sFrom b0 b := fun q => by simp only [sFrom] at q; omega
  have hq : ∀ a : Nat, a < s.heap.size → H[a]? = s.heap[a]? := fun a ha => hS.2.1 a ha (fun q => by simp only [sFrom] at q; omega)
  have hIc : wl_I (ga b0) 137 := ga_I _ _
  have hIm : wl_I (ga (b0 + 137)) 39 := ga_I _ _
  have e0 : (0 : Int32).toNatClampNeg = 0 := by decide
  have i1 : vp_in (nI (4 * k) + 1) L := by rw [nI_1]; exact vp_in_nI (by omega) (by omega)
  have i2 : vp_in (nI (4 * k) + 2) L := by rw [show nI (4 * k) + 2 = nI (4 * k + 2) from nI_add _ 2]; exact vp_in_nI (by omega) (by omega)
  have i3 : vp_in (nI (4 * k) + 3) L := by rw [show nI (4 * k) + 3 = nI (4 * k + 3) from nI_add _ 3]; exact vp_in_nI (by omega) (by omega)
  obtain ⟨x1, hx1⟩ : ∃ x, x = xs (nI (4 * k) + 1).toNatClampNeg := ⟨_, rfl⟩
  obtain ⟨x2, hx2⟩ : ∃ x, x = xs (nI (4 * k) + 2).toNatClampNeg := ⟨_, rfl⟩
  obtain ⟨x3, hx3⟩ : ∃ x, x = xs (nI (4 * k) + 3).toNatClampNeg := ⟨_, rfl⟩
  have hlt : cAdd nS nO (oNp α) x1 x2 x3 < 4 := by unfold cAdd; (repeat' split) <;> omega
  refine lv_aload_n hx hb dL_law_508 rfl (lv_at hl 1 rfl) ?_
  refine lv_aload_n hx hb dL_law_509 rfl (lv_at hl 0 rfl) ?_
  refine lv_iload hx hb dL_law_510 (lv_at hl 4 rfl) ?_
  refine lv_iconst (v := 1) hx hb dL_law_512 (by decide) ?_
  refine lv_iadd hx hb dL_law_513 ?_
  refine va_sld hx hb hX hbl hbA hS i1 dL_law_514 ?_
  rw [← hx1]
  refine lv_aload_n hx hb dL_law_515 rfl (lv_at hl 0 rfl) ?_
  refine lv_iload hx hb dL_law_516 (lv_at hl 4 rfl) ?_
  refine lv_iconst (v := 2) hx hb dL_law_518 (by decide) ?_
  refine lv_iadd hx hb dL_law_519 ?_
  refine va_sld hx hb hX hbl hbA hS i2 dL_law_520 ?_
  rw [← hx2]
  refine lv_aload_n hx hb dL_law_521 rfl (lv_at hl 0 rfl) ?_
  refine lv_iload hx hb dL_law_522 (lv_at hl 4 rfl) ?_
  refine lv_iconst (v := 3) hx hb dL_law_524 (by decide) ?_
  refine lv_iadd hx hb dL_law_525 ?_
  refine va_sld hx hb hX hbl hbA hS i3 dL_law_526 ?_
  rw [← hx3]
  refine lv_aload_n hx hb dL_law_527 rfl (lv_at hl 3 rfl) ?_
  refine o_call (vx_runSW (As := [.ref (ga b0 0), .int x1, .int x2, .int x3, .ref (b0 + 176)]) (rest := []) ⟨hx, hb, hml, hown, hts⟩ (mL_addOrgan l hst (D, ga b0, kl) hIc α β γ nS nO nH hT.1 (b0 + 176) f nao x1 x2 x3) (vx_cwSW 5 hts gL_law_L_addOrgan rfl rfl rfl (by decide +kernel) ⟨(Nat.le_of_ble_eq_true rfl), (Nat.le_of_ble_eq_true rfl)⟩) ⟨lL_blind, lL_pre hPc hPo (hE9.K _) hE9.N hE9.E hE9.C hq⟩ rfl rfl hl.1 rfl (lv_room (Nat.le_of_ble_eq_true rfl)) dL_law_528 ⟨(show 177 + 100 * k + 1 ≤ 846345 by omega), (show 3360 + 1100 * k + 6 ≤ 6557069 by omega)⟩) hS (fun q _ h => sub_L q h) sub_L (fun H1 locs1 hPH hz1 hk1 hS1 => ?_)
  obtain ⟨hPc1, hPo1⟩ := hPH
  have hPm1 := kp_m hPm hk1
  change W _ _ _ _ _ _ _ _ _ _ _ _ _ _ _ (F0 m 531 ls [.int (nI (cAdd nS nO (oNp α) x1 x2 x3))])
  refine lv_istore (lv' := [(5, .int (nI (cAdd nS nO (oNp α) x1 x2 x3))), (0, .ref b), (1, .ref (ga b0 0)), (2, .ref (ga (b0 + 137) 0)), (3, .ref (b0 + 176)), (4, .int (nI (4 * k)))]) hx hb dL_law_531 hl (by decide) rfl (fun ls hl => ?_)
  refine lv_aload_n hx hb dL_law_533 rfl (lv_at hl 3 rfl) ?_
  refine lv_aload_n hx hb dL_law_534 rfl (lv_at hl 1 rfl) ?_
  refine lv_iload hx hb dL_law_535 (lv_at hl 5 rfl) ?_
  refine lv_iconst (v := 1) hx hb dL_law_537 (by decide) ?_
  refine lv_iadd hx hb dL_law_538 ?_
  refine va_sld hx hb hX hbl hbA hS1 i1 dL_law_539 ?_
  rw [← hx1]
  refine lv_aload_n hx hb dL_law_540 rfl (lv_at hl 1 rfl) ?_
  refine lv_iload hx hb dL_law_541 (lv_at hl 5 rfl) ?_
  refine lv_iconst (v := 2) hx hb dL_law_543 (by decide) ?_
  refine lv_iadd hx hb dL_law_544 ?_
  refine va_sld hx hb hX hbl hbA hS1 i2 dL_law_545 ?_
  rw [← hx2]
  refine lv_aload_n hx hb dL_law_546 rfl (lv_at hl 1 rfl) ?_
  refine lv_iload hx hb dL_law_547 (lv_at hl 5 rfl) ?_
  refine lv_iconst (v := 3) hx hb dL_law_549 (by decide) ?_
  refine lv_iadd hx hb dL_law_550 ?_
  refine va_sld hx hb hX hbl hbA hS1 i3 dL_law_551 ?_
  rw [← hx3]
  have hM := m_X6_addOrgan l (D, ga (b0 + 137), kl) hIm τ σ δ nS nO nH hT.q x1 x2 x3
  rw [← hT.cAdd x1 x2 x3] at hM
  refine o_call (va_runV (As := [.int x1, .int x2, .int x3]) (rest := []) (b := ga (b0 + 137) 0) ⟨hx, hb, hml, hown, hts⟩ hM (cwV 3 hts gL_law_X6_addOrgan rfl rfl rfl (by decide +kernel) ⟨(Nat.le_of_ble_eq_true rfl), (Nat.le_of_ble_eq_true rfl)⟩) ⟨o_blind, va_recv (hE9.K (ga (b0 + 137))) hPm1 (ci := 8) (q0 := 0) rfl (mw_M (D, ga (b0 + 137), kl) _), o_pre hPm1 (hE9.K _) hE9.N⟩ rfl rfl hl.1 rfl (lv_room (Nat.le_of_ble_eq_true rfl)) dL_law_552 ⟨(show 177 + 100 * k + 1 + 0 ≤ 846345 by omega), (show 3360 + 1100 * k + 6 + 0 ≤ 6557069 by omega)⟩) hS1 (fun q _ h => sub_M q h) sub_M (fun H2 locs2 hPm2 hz2 hk2 hS2 => ?_)
  have hPc2 := kp_c (Nat.le_refl (b0 + 177)) hPc1 (kp_AN hk2)
  have hPo2 := kp_o (Nat.le_refl (b0 + 177)) hPo1 (kp_AN hk2)
  change W _ _ _ _ _ _ _ _ _ _ _ _ _ _ _ (F0 m 555 ls [.int (if cAdd nS nO (oNp α) x1 x2 x3 = 0 then nI nO else 0)])
  refine lv_istore (lv' := [(6, .int (if cAdd nS nO (oNp α) x1 x2 x3 = 0 then nI nO else 0)), (5, .int (nI (cAdd nS nO (oNp α) x1 x2 x3))), (0, .ref b), (1, .ref (ga b0 0)), (2, .ref (ga (b0 + 137) 0)), (3, .ref (b0 + 176)), (4, .int (nI (4 * k)))]) hx hb dL_law_555 hl (by decide) rfl (fun ls hl => ?_)
  refine lv_aload_n hx hb dL_law_557 rfl (lv_at hl 4 rfl) ?_
  refine o_cVi (q0 := 0) (ci := 8) [] [] ⟨hx, hb, hml, hown, hts⟩ (m_X6_thrown l (D, ga (b0 + 137), kl) _ _ _) (cwV 0 hts gL_law_X6_thrown rfl rfl rfl (by decide +kernel) ⟨(Nat.le_of_ble_eq_true rfl), (Nat.le_of_ble_eq_true rfl)⟩) (hE9.K _) hE9.N hPm2 rfl rfl (mw_M (D, ga (b0 + 137), kl) _) rfl hl.1 rfl (Nat.le_of_ble_eq_true rfl) dL_law_558 ⟨(show 177 + 100 * k + 1 + 0 ≤ 846345 by omega), (show 3360 + 1100 * k + 6 + 0 ≤ 6557069 by omega)⟩ ?_
  rw [mT_41]
  refine lv_iload hx hb dL_law_561 (lv_at hl 1 rfl) ?_
  refine lv_icmp_eq (tgt := 568) hx hb dL_law_563 (by decide) (fun c7 => ?_) (fun c7 => absurd rfl c7)
  refine lv_iload hx hb dL_law_568 (lv_at hl 1 rfl) ?_
  refine lv_if_ne (tgt := 585) hx hb dL_law_570 (by decide) (fun c8 => ?_) (fun c8 => ?_)
  · have hc : ¬ cAdd nS nO (oNp α) x1 x2 x3 = 0 := fun h => c8 (by rw [h]; rfl)
    refine lv_goto (tgt := 1324) hx hb dL_law_585 (by decide) ?_
    rw [if_neg hc] at hPc2
    rw [if_neg hc] at hPo2
    rw [if_neg hc] at hPm2
    try rw [if_neg hc] at hPm2
    try rw [if_neg hc] at hPm2
    exact o_widen (k := 177 + 100 * (k + 1)) (n := 3360 + 1100 * (k + 1)) (by omega) (by omega) (nx _ _ _ _ _ _ _ _ _ _ _ _ (rT_mT hT _) (by omega) hPc2 hPm2 hPo2 hS2 (by omega) ls (lv_sub hl [2, 3, 4, 5, 6] rfl))
  · have hc : cAdd nS nO (oNp α) x1 x2 x3 = 0 := (nI_eq (b := 0) (by omega) (by decide)).mp c8
    refine lv_aload_n hx hb dL_law_573 rfl (lv_at hl 5 rfl) ?_
    refine lv_iconst (v := 0) hx hb dL_law_574 (by decide) ?_
    refine va_lald hx hb (hE9.K (ga b0)) hPo2 0 5 rfl rfl (vp_in_nI (n := 0) (by decide) (by decide)) dL_law_575 ?_
    refine lv_iload hx hb dL_law_576 (lv_at hl 0 rfl) ?_
    refine lv_i2l hx hb dL_law_578 rfl ?_
    rw [if_pos hc] at hPc2
    rw [if_pos hc] at hPo2
    rw [if_pos hc] at hPm2
    try rw [if_pos hc] at hPm2
    try rw [if_pos hc] at hPm2
    try rw [hc] at hPm2
    have hR := hT.add hc
    refine o_lcmp_eq hx hb dL_law_579 (by rw [if_pos hc, if_pos hc, e0, pk_uLs]) ?_
    refine lv_if_eq (tgt := 585) hx hb dL_law_580 (by decide) (fun c9 => ?_) (fun c9 => absurd rfl c9)
    refine lv_goto (tgt := 1324) hx hb dL_law_585 (by decide) ?_
    exact o_widen (k := 177 + 100 * (k + 1)) (n := 3360 + 1100 * (k + 1)) (by omega) (by omega) (nx _ _ _ _ _ _ _ _ _ _ _ _ hR (by have := hH; omega) hPc2 hPm2 hPo2 hS2 (by omega) ls (lv_sub hl [2, 3, 4, 5, 6] rfl))
set_option maxHeartbeats 16000000 in
set_option maxRecDepth 100000 in
theorem law_c588 {p : Program} {l : Launch} {e : Env} {s : State} {m : MethodId} {below : List Frame} {meth : Method} {c : Code} (hst : l.stackTraces = false) {D : va_G} {kl : Nat → ClassId} {a1 v1 a2 v2 a3 v3 a4 v4 a5 v5 t1 t2 b L b0 : Nat} {xs : Nat → Int32} (hL : L ≤ 2048) (C0 : lw_At p s m meth c b L xs) (hE9 : lwE D kl s a1 v1 a2 v2 a3 v3 a4 v4 a5 v5 t1 t2) (hb0 : b0 = s.heap.size) {k : Nat} (hk4 : 4 * k + 4 ≤ L)
    (nx : lNx p l e s m below meth c D kl b b0 k) {α β γ τ σ δ : oT} {nS nO nH : Nat} {f : Nat → Int64} {H : Heap} {locs : List Loc} (hT : rT α β γ τ δ nS nO nH) (hH : nH ≤ 100 * k) (hPc : va_P D vwCl (cw (D, ga b0, kl) (z3 α β γ)) H) (hPm : va_P D vwCl (mw (D, ga (b0 + 137), kl) (z3 τ σ δ)) H) (hPo : va_P D vwCl (lw1 (D, ga b0, kl) (b0 + 176) f) H) (hS : va_S (sFrom b0) s.heap H locs) (hz : b0 + 177 ≤ H.size) {ls : Array Slot} (hl : lv_has ls 9 [(0, .ref b), (1, .ref (ga b0 0)), (2, .ref (ga (b0 + 137) 0)), (3, .ref (b0 + 176)), (4, .int (nI (4 * k)))]) : W p l e room_1 s m #[Value.ref b] below meth c H locs (177 + 100 * k) (3360 + 1100 * k) (lw_Z below #[Value.ref b] s) (F0 m 588 ls []) := by
  obtain ⟨hx, hb, hr, hml, hown, htb, hX, hbl, hlocks, hgv⟩ := C0
  have hts : ∀ w ∈ wsL_law, w.before #[Value.ref b] s = true := fun w hw => htb w (wsL_law_in w hw)
  have hbA : ¬ sFrom b0 b := fun q => by simp only [sFrom] at q; omega
  have hq : ∀ a : Nat, a < s.heap.size → H[a]? = s.heap[a]? := fun a ha => hS.2.1 a ha (fun q => by simp only [sFrom] at q; omega)
  have hIc : wl_I (ga b0) 137 := ga_I _ _
  have hIm : wl_I (ga (b0 + 137)) 39 := ga_I _ _
  have e0 : (0 : Int32).toNatClampNeg = 0 := by decide
  have i1 : vp_in (nI (4 * k) + 1) L := by rw [nI_1]; exact vp_in_nI (by omega) (by omega)
  have i2 : vp_in (nI (4 * k) + 2) L := by rw [show nI (4 * k) + 2 = nI (4 * k + 2) from nI_add _ 2]; exact vp_in_nI (by omega) (by omega)
  have i3 : vp_in (nI (4 * k) + 3) L := by rw [show nI (4 * k) + 3 = nI (4 * k + 3) from nI_add _ 3]; exact vp_in_nI (by omega) (by omega)
  obtain ⟨x1, hx1⟩ : ∃ x, x = xs (nI (4 * k) + 1).toNatClampNeg := ⟨_, rfl⟩
  obtain ⟨x2, hx2⟩ : ∃ x, x = xs (nI (4 * k) + 2).toNatClampNeg := ⟨_, rfl⟩
  obtain ⟨x3, hx3⟩ : ∃ x, x = xs (nI (4 * k) + 3).toNatClampNeg := ⟨_, rfl⟩
  have hlt : cBar nO x1 x2 < 4 := by unfold cBar; (repeat' split) <;> omega
  refine lv_aload_n hx hb dL_law_588 rfl (lv_at hl 1 rfl) ?_
  refine lv_aload_n hx hb dL_law_589 rfl (lv_at hl 0 rfl) ?_
  refine lv_iload hx hb dL_law_590 (lv_at hl 4 rfl) ?_
  refine lv_iconst (v := 1) hx hb dL_law_592 (by decide) ?_
  refine lv_iadd hx hb dL_law_593 ?_
  refine va_sld hx hb hX hbl hbA hS i1 dL_law_594 ?_
  rw [← hx1]
  refine lv_aload_n hx hb dL_law_595 rfl (lv_at hl 0 rfl) ?_
  refine lv_iload hx hb dL_law_596 (lv_at hl 4 rfl) ?_
  refine lv_iconst (v := 2) hx hb dL_law_598 (by decide) ?_
  refine lv_iadd hx hb dL_law_599 ?_
  refine va_sld hx hb hX hbl hbA hS i2 dL_law_600 ?_
  rw [← hx2]
  refine lv_aload_n hx hb dL_law_601 rfl (lv_at hl 3 rfl) ?_
  refine o_call (vx_runSW (As := [.ref (ga b0 0), .int x1, .int x2, .ref (b0 + 176)]) (rest := []) ⟨hx, hb, hml, hown, hts⟩ (mL_setBarrel l hst (D, ga b0, kl) hIc α β γ nS nO nH hT.1 (b0 + 176) f nao x1 x2) (vx_cwSW 4 hts gL_law_L_setBarrel rfl rfl rfl (by decide +kernel) ⟨(Nat.le_of_ble_eq_true rfl), (Nat.le_of_ble_eq_true rfl)⟩) ⟨lL_blind, lL_pre hPc hPo (hE9.K _) hE9.N hE9.E hE9.C hq⟩ rfl rfl hl.1 rfl (lv_room (Nat.le_of_ble_eq_true rfl)) dL_law_602 ⟨(show 177 + 100 * k + 1 ≤ 846345 by omega), (show 3360 + 1100 * k + 6 ≤ 6557069 by omega)⟩) hS (fun q _ h => sub_L q h) sub_L (fun H1 locs1 hPH hz1 hk1 hS1 => ?_)
  obtain ⟨hPc1, hPo1⟩ := hPH
  have hPm1 := kp_m hPm hk1
  change W _ _ _ _ _ _ _ _ _ _ _ _ _ _ _ (F0 m 605 ls [.int (nI (cBar nO x1 x2))])
  refine lv_istore (lv' := [(5, .int (nI (cBar nO x1 x2))), (0, .ref b), (1, .ref (ga b0 0)), (2, .ref (ga (b0 + 137) 0)), (3, .ref (b0 + 176)), (4, .int (nI (4 * k)))]) hx hb dL_law_605 hl (by decide) rfl (fun ls hl => ?_)
  refine lv_aload_n hx hb dL_law_607 rfl (lv_at hl 3 rfl) ?_
  refine lv_aload_n hx hb dL_law_608 rfl (lv_at hl 1 rfl) ?_
  refine lv_iload hx hb dL_law_609 (lv_at hl 5 rfl) ?_
  refine lv_iconst (v := 1) hx hb dL_law_611 (by decide) ?_
  refine lv_iadd hx hb dL_law_612 ?_
  refine va_sld hx hb hX hbl hbA hS1 i1 dL_law_613 ?_
  rw [← hx1]
  refine lv_aload_n hx hb dL_law_614 rfl (lv_at hl 1 rfl) ?_
  refine lv_iload hx hb dL_law_615 (lv_at hl 5 rfl) ?_
  refine lv_iconst (v := 2) hx hb dL_law_617 (by decide) ?_
  refine lv_iadd hx hb dL_law_618 ?_
  refine va_sld hx hb hX hbl hbA hS1 i2 dL_law_619 ?_
  rw [← hx2]
  have hM := m_X6_setBarrel l (D, ga (b0 + 137), kl) hIm τ σ δ nS nO nH hT.q x1 x2
  refine o_call (va_runV (As := [.int x1, .int x2]) (rest := []) (b := ga (b0 + 137) 0) ⟨hx, hb, hml, hown, hts⟩ hM (cwV 2 hts gL_law_X6_setBarrel rfl rfl rfl (by decide +kernel) ⟨(Nat.le_of_ble_eq_true rfl), (Nat.le_of_ble_eq_true rfl)⟩) ⟨o_blind, va_recv (hE9.K (ga (b0 + 137))) hPm1 (ci := 8) (q0 := 0) rfl (mw_M (D, ga (b0 + 137), kl) _), o_pre hPm1 (hE9.K _) hE9.N⟩ rfl rfl hl.1 rfl (lv_room (Nat.le_of_ble_eq_true rfl)) dL_law_620 ⟨(show 177 + 100 * k + 1 + 0 ≤ 846345 by omega), (show 3360 + 1100 * k + 6 + 0 ≤ 6557069 by omega)⟩) hS1 (fun q _ h => sub_M q h) sub_M (fun H2 locs2 hPm2 hz2 hk2 hS2 => ?_)
  have hPc2 := kp_c (Nat.le_refl (b0 + 177)) hPc1 (kp_AN hk2)
  have hPo2 := kp_o (Nat.le_refl (b0 + 177)) hPo1 (kp_AN hk2)
  change W _ _ _ _ _ _ _ _ _ _ _ _ _ _ _ (F0 m 623 ls [.int (if cBar nO x1 x2 = 0 then τ 11 0 (oN x1) else 0)])
  refine lv_istore (lv' := [(6, .int (if cBar nO x1 x2 = 0 then τ 11 0 (oN x1) else 0)), (5, .int (nI (cBar nO x1 x2))), (0, .ref b), (1, .ref (ga b0 0)), (2, .ref (ga (b0 + 137) 0)), (3, .ref (b0 + 176)), (4, .int (nI (4 * k)))]) hx hb dL_law_623 hl (by decide) rfl (fun ls hl => ?_)
  refine lv_aload_n hx hb dL_law_625 rfl (lv_at hl 4 rfl) ?_
  refine o_cVi (q0 := 0) (ci := 8) [] [] ⟨hx, hb, hml, hown, hts⟩ (m_X6_thrown l (D, ga (b0 + 137), kl) _ _ _) (cwV 0 hts gL_law_X6_thrown rfl rfl rfl (by decide +kernel) ⟨(Nat.le_of_ble_eq_true rfl), (Nat.le_of_ble_eq_true rfl)⟩) (hE9.K _) hE9.N hPm2 rfl rfl (mw_M (D, ga (b0 + 137), kl) _) rfl hl.1 rfl (Nat.le_of_ble_eq_true rfl) dL_law_626 ⟨(show 177 + 100 * k + 1 + 0 ≤ 846345 by omega), (show 3360 + 1100 * k + 6 + 0 ≤ 6557069 by omega)⟩ ?_
  rw [mT_41]
  refine lv_iload hx hb dL_law_629 (lv_at hl 1 rfl) ?_
  refine lv_icmp_eq (tgt := 636) hx hb dL_law_631 (by decide) (fun c7 => ?_) (fun c7 => absurd rfl c7)
  refine lv_iload hx hb dL_law_636 (lv_at hl 1 rfl) ?_
  refine lv_if_ne (tgt := 653) hx hb dL_law_638 (by decide) (fun c8 => ?_) (fun c8 => ?_)
  · have hc : ¬ cBar nO x1 x2 = 0 := fun h => c8 (by rw [h]; rfl)
    refine lv_goto (tgt := 1324) hx hb dL_law_653 (by decide) ?_
    rw [if_neg hc] at hPc2
    rw [if_neg hc] at hPo2
    rw [if_neg hc] at hPm2
    try rw [if_neg hc] at hPm2
    try rw [if_neg hc] at hPm2
    exact o_widen (k := 177 + 100 * (k + 1)) (n := 3360 + 1100 * (k + 1)) (by omega) (by omega) (nx _ _ _ _ _ _ _ _ _ _ _ _ (rT_mT hT _) (by omega) hPc2 hPm2 hPo2 hS2 (by omega) ls (lv_sub hl [2, 3, 4, 5, 6] rfl))
  · have hc : cBar nO x1 x2 = 0 := (nI_eq (b := 0) (by omega) (by decide)).mp c8
    refine lv_aload_n hx hb dL_law_641 rfl (lv_at hl 5 rfl) ?_
    refine lv_iconst (v := 0) hx hb dL_law_642 (by decide) ?_
    refine va_lald hx hb (hE9.K (ga b0)) hPo2 0 5 rfl rfl (vp_in_nI (n := 0) (by decide) (by decide)) dL_law_643 ?_
    refine lv_iload hx hb dL_law_644 (lv_at hl 0 rfl) ?_
    refine lv_i2l hx hb dL_law_646 rfl ?_
    rw [if_pos hc] at hPc2
    rw [if_pos hc] at hPo2
    rw [if_pos hc] at hPm2
    try rw [if_pos hc] at hPm2
    try rw [if_pos hc] at hPm2
    try rw [hc] at hPm2
    have hR := hT.bar hc
    refine o_lcmp_eq hx hb dL_law_647 (by rw [if_pos hc, if_pos hc, e0, pk_uLs, hR.2]) ?_
    refine lv_if_eq (tgt := 653) hx hb dL_law_648 (by decide) (fun c9 => ?_) (fun c9 => absurd rfl c9)
    refine lv_goto (tgt := 1324) hx hb dL_law_653 (by decide) ?_
    exact o_widen (k := 177 + 100 * (k + 1)) (n := 3360 + 1100 * (k + 1)) (by omega) (by omega) (nx _ _ _ _ _ _ _ _ _ _ _ _ hR.1 (by have := hH; omega) hPc2 hPm2 hPo2 hS2 (by omega) ls (lv_sub hl [2, 3, 4, 5, 6] rfl))
set_option maxHeartbeats 16000000 in
set_option maxRecDepth 100000 in
theorem law_c656 {p : Program} {l : Launch} {e : Env} {s : State} {m : MethodId} {below : List Frame} {meth : Method} {c : Code} (hst : l.stackTraces = false) {D : va_G} {kl : Nat → ClassId} {a1 v1 a2 v2 a3 v3 a4 v4 a5 v5 t1 t2 b L b0 : Nat} {xs : Nat → Int32} (hL : L ≤ 2048) (C0 : lw_At p s m meth c b L xs) (hE9 : lwE D kl s a1 v1 a2 v2 a3 v3 a4 v4 a5 v5 t1 t2) (hb0 : b0 = s.heap.size) {k : Nat} (hk4 : 4 * k + 4 ≤ L)
    (nx : lNx p l e s m below meth c D kl b b0 k) {α β γ τ σ δ : oT} {nS nO nH : Nat} {f : Nat → Int64} {H : Heap} {locs : List Loc} (hT : rT α β γ τ δ nS nO nH) (hH : nH ≤ 100 * k) (hPc : va_P D vwCl (cw (D, ga b0, kl) (z3 α β γ)) H) (hPm : va_P D vwCl (mw (D, ga (b0 + 137), kl) (z3 τ σ δ)) H) (hPo : va_P D vwCl (lw1 (D, ga b0, kl) (b0 + 176) f) H) (hS : va_S (sFrom b0) s.heap H locs) (hz : b0 + 177 ≤ H.size) {ls : Array Slot} (hl : lv_has ls 9 [(0, .ref b), (1, .ref (ga b0 0)), (2, .ref (ga (b0 + 137) 0)), (3, .ref (b0 + 176)), (4, .int (nI (4 * k)))]) : W p l e room_1 s m #[Value.ref b] below meth c H locs (177 + 100 * k) (3360 + 1100 * k) (lw_Z below #[Value.ref b] s) (F0 m 656 ls []) := by
  obtain ⟨hx, hb, hr, hml, hown, htb, hX, hbl, hlocks, hgv⟩ := C0
  have hts : ∀ w ∈ wsL_law, w.before #[Value.ref b] s = true := fun w hw => htb w (wsL_law_in w hw)
  have hbA : ¬ sFrom b0 b := fun q => by simp only [sFrom] at q; omega
  have hq : ∀ a : Nat, a < s.heap.size → H[a]? = s.heap[a]? := fun a ha => hS.2.1 a ha (fun q => by simp only [sFrom] at q; omega)
  have hIc : wl_I (ga b0) 137 := ga_I _ _
  have hIm : wl_I (ga (b0 + 137)) 39 := ga_I _ _
  have e0 : (0 : Int32).toNatClampNeg = 0 := by decide
  have i1 : vp_in (nI (4 * k) + 1) L := by rw [nI_1]; exact vp_in_nI (by omega) (by omega)
  have i2 : vp_in (nI (4 * k) + 2) L := by rw [show nI (4 * k) + 2 = nI (4 * k + 2) from nI_add _ 2]; exact vp_in_nI (by omega) (by omega)
  have i3 : vp_in (nI (4 * k) + 3) L := by rw [show nI (4 * k) + 3 = nI (4 * k + 3) from nI_add _ 3]; exact vp_in_nI (by omega) (by omega)
  obtain ⟨x1, hx1⟩ : ∃ x, x = xs (nI (4 * k) + 1).toNatClampNeg := ⟨_, rfl⟩
  obtain ⟨x2, hx2⟩ : ∃ x, x = xs (nI (4 * k) + 2).toNatClampNeg := ⟨_, rfl⟩
  obtain ⟨x3, hx3⟩ : ∃ x, x = xs (nI (4 * k) + 3).toNatClampNeg := ⟨_, rfl⟩
  have hlt : cSend nS nO (oNp α) (α 9 (oN x1) (oN x2)) x1 x2 x3 < 4 := by unfold cSend; (repeat' split) <;> omega
  refine lv_aload_n hx hb dL_law_656 rfl (lv_at hl 1 rfl) ?_
  refine lv_aload_n hx hb dL_law_657 rfl (lv_at hl 0 rfl) ?_
  refine lv_iload hx hb dL_law_658 (lv_at hl 4 rfl) ?_
  refine lv_iconst (v := 1) hx hb dL_law_660 (by decide) ?_
  refine lv_iadd hx hb dL_law_661 ?_
  refine va_sld hx hb hX hbl hbA hS i1 dL_law_662 ?_
  rw [← hx1]
  refine lv_aload_n hx hb dL_law_663 rfl (lv_at hl 0 rfl) ?_
  refine lv_iload hx hb dL_law_664 (lv_at hl 4 rfl) ?_
  refine lv_iconst (v := 2) hx hb dL_law_666 (by decide) ?_
  refine lv_iadd hx hb dL_law_667 ?_
  refine va_sld hx hb hX hbl hbA hS i2 dL_law_668 ?_
  rw [← hx2]
  refine lv_aload_n hx hb dL_law_669 rfl (lv_at hl 0 rfl) ?_
  refine lv_iload hx hb dL_law_670 (lv_at hl 4 rfl) ?_
  refine lv_iconst (v := 3) hx hb dL_law_672 (by decide) ?_
  refine lv_iadd hx hb dL_law_673 ?_
  refine va_sld hx hb hX hbl hbA hS i3 dL_law_674 ?_
  rw [← hx3]
  refine lv_aload_n hx hb dL_law_675 rfl (lv_at hl 3 rfl) ?_
  refine o_call (vx_runSW (As := [.ref (ga b0 0), .int x1, .int x2, .int x3, .ref (b0 + 176)]) (rest := []) ⟨hx, hb, hml, hown, hts⟩ (mL_send l hst (D, ga b0, kl) hIc α β γ nS nO nH hT.1 (b0 + 176) f nao x1 x2 x3) (vx_cwSW 5 hts gL_law_L_send rfl rfl rfl (by decide +kernel) ⟨(Nat.le_of_ble_eq_true rfl), (Nat.le_of_ble_eq_true rfl)⟩) ⟨lL_blind, lL_pre hPc hPo (hE9.K _) hE9.N hE9.E hE9.C hq⟩ rfl rfl hl.1 rfl (lv_room (Nat.le_of_ble_eq_true rfl)) dL_law_676 ⟨(show 177 + 100 * k + 1 ≤ 846345 by omega), (show 3360 + 1100 * k + 6 ≤ 6557069 by omega)⟩) hS (fun q _ h => sub_L q h) sub_L (fun H1 locs1 hPH hz1 hk1 hS1 => ?_)
  obtain ⟨hPc1, hPo1⟩ := hPH
  have hPm1 := kp_m hPm hk1
  change W _ _ _ _ _ _ _ _ _ _ _ _ _ _ _ (F0 m 679 ls [.int (nI (cSend nS nO (oNp α) (α 9 (oN x1) (oN x2)) x1 x2 x3))])
  refine lv_istore (lv' := [(5, .int (nI (cSend nS nO (oNp α) (α 9 (oN x1) (oN x2)) x1 x2 x3))), (0, .ref b), (1, .ref (ga b0 0)), (2, .ref (ga (b0 + 137) 0)), (3, .ref (b0 + 176)), (4, .int (nI (4 * k)))]) hx hb dL_law_679 hl (by decide) rfl (fun ls hl => ?_)
  refine lv_aload_n hx hb dL_law_681 rfl (lv_at hl 3 rfl) ?_
  refine lv_aload_n hx hb dL_law_682 rfl (lv_at hl 1 rfl) ?_
  refine lv_iload hx hb dL_law_683 (lv_at hl 5 rfl) ?_
  refine lv_iconst (v := 1) hx hb dL_law_685 (by decide) ?_
  refine lv_iadd hx hb dL_law_686 ?_
  refine va_sld hx hb hX hbl hbA hS1 i1 dL_law_687 ?_
  rw [← hx1]
  refine lv_aload_n hx hb dL_law_688 rfl (lv_at hl 1 rfl) ?_
  refine lv_iload hx hb dL_law_689 (lv_at hl 5 rfl) ?_
  refine lv_iconst (v := 2) hx hb dL_law_691 (by decide) ?_
  refine lv_iadd hx hb dL_law_692 ?_
  refine va_sld hx hb hX hbl hbA hS1 i2 dL_law_693 ?_
  rw [← hx2]
  refine lv_aload_n hx hb dL_law_694 rfl (lv_at hl 1 rfl) ?_
  refine lv_iload hx hb dL_law_695 (lv_at hl 5 rfl) ?_
  refine lv_iconst (v := 3) hx hb dL_law_697 (by decide) ?_
  refine lv_iadd hx hb dL_law_698 ?_
  refine va_sld hx hb hX hbl hbA hS1 i3 dL_law_699 ?_
  rw [← hx3]
  have hM := m_X6_send l (D, ga (b0 + 137), kl) hIm τ σ δ nS nO nH hT.q x1 x2 x3
  rw [← hT.cSend x1 x2 x3] at hM
  refine o_call (va_runV (As := [.int x1, .int x2, .int x3]) (rest := []) (b := ga (b0 + 137) 0) ⟨hx, hb, hml, hown, hts⟩ hM (cwV 3 hts gL_law_X6_send rfl rfl rfl (by decide +kernel) ⟨(Nat.le_of_ble_eq_true rfl), (Nat.le_of_ble_eq_true rfl)⟩) ⟨o_blind, va_recv (hE9.K (ga (b0 + 137))) hPm1 (ci := 8) (q0 := 0) rfl (mw_M (D, ga (b0 + 137), kl) _), o_pre hPm1 (hE9.K _) hE9.N⟩ rfl rfl hl.1 rfl (lv_room (Nat.le_of_ble_eq_true rfl)) dL_law_700 ⟨(show 177 + 100 * k + 1 + 0 ≤ 846345 by omega), (show 3360 + 1100 * k + 6 + 0 ≤ 6557069 by omega)⟩) hS1 (fun q _ h => sub_M q h) sub_M (fun H2 locs2 hPm2 hz2 hk2 hS2 => ?_)
  have hPc2 := kp_c (Nat.le_refl (b0 + 177)) hPc1 (kp_AN hk2)
  have hPo2 := kp_o (Nat.le_refl (b0 + 177)) hPo1 (kp_AN hk2)
  change W _ _ _ _ _ _ _ _ _ _ _ _ _ _ _ (F0 m 703 ls [.int (if cSend nS nO (oNp α) (α 9 (oN x1) (oN x2)) x1 x2 x3 = 0 then qFar τ (oN x1) x2 x3 else 0)])
  refine lv_istore (lv' := [(6, .int (if cSend nS nO (oNp α) (α 9 (oN x1) (oN x2)) x1 x2 x3 = 0 then qFar τ (oN x1) x2 x3 else 0)), (5, .int (nI (cSend nS nO (oNp α) (α 9 (oN x1) (oN x2)) x1 x2 x3))), (0, .ref b), (1, .ref (ga b0 0)), (2, .ref (ga (b0 + 137) 0)), (3, .ref (b0 + 176)), (4, .int (nI (4 * k)))]) hx hb dL_law_703 hl (by decide) rfl (fun ls hl => ?_)
  refine lv_aload_n hx hb dL_law_705 rfl (lv_at hl 4 rfl) ?_
  refine o_cVi (q0 := 0) (ci := 8) [] [] ⟨hx, hb, hml, hown, hts⟩ (m_X6_thrown l (D, ga (b0 + 137), kl) _ _ _) (cwV 0 hts gL_law_X6_thrown rfl rfl rfl (by decide +kernel) ⟨(Nat.le_of_ble_eq_true rfl), (Nat.le_of_ble_eq_true rfl)⟩) (hE9.K _) hE9.N hPm2 rfl rfl (mw_M (D, ga (b0 + 137), kl) _) rfl hl.1 rfl (Nat.le_of_ble_eq_true rfl) dL_law_706 ⟨(show 177 + 100 * k + 1 + 0 ≤ 846345 by omega), (show 3360 + 1100 * k + 6 + 0 ≤ 6557069 by omega)⟩ ?_
  rw [mT_41]
  refine lv_iload hx hb dL_law_709 (lv_at hl 1 rfl) ?_
  refine lv_icmp_eq (tgt := 716) hx hb dL_law_711 (by decide) (fun c7 => ?_) (fun c7 => absurd rfl c7)
  refine lv_iload hx hb dL_law_716 (lv_at hl 1 rfl) ?_
  refine lv_if_ne (tgt := 733) hx hb dL_law_718 (by decide) (fun c8 => ?_) (fun c8 => ?_)
  · have hc : ¬ cSend nS nO (oNp α) (α 9 (oN x1) (oN x2)) x1 x2 x3 = 0 := fun h => c8 (by rw [h]; rfl)
    refine lv_goto (tgt := 1324) hx hb dL_law_733 (by decide) ?_
    rw [if_neg hc] at hPc2
    rw [if_neg hc] at hPo2
    rw [if_neg hc] at hPm2
    try rw [if_neg hc] at hPm2
    try rw [if_neg hc] at hPm2
    exact o_widen (k := 177 + 100 * (k + 1)) (n := 3360 + 1100 * (k + 1)) (by omega) (by omega) (nx _ _ _ _ _ _ _ _ _ _ _ _ (rT_mT hT _) (by omega) hPc2 hPm2 hPo2 hS2 (by omega) ls (lv_sub hl [2, 3, 4, 5, 6] rfl))
  · have hc : cSend nS nO (oNp α) (α 9 (oN x1) (oN x2)) x1 x2 x3 = 0 := (nI_eq (b := 0) (by omega) (by decide)).mp c8
    refine lv_aload_n hx hb dL_law_721 rfl (lv_at hl 5 rfl) ?_
    refine lv_iconst (v := 0) hx hb dL_law_722 (by decide) ?_
    refine va_lald hx hb (hE9.K (ga b0)) hPo2 0 5 rfl rfl (vp_in_nI (n := 0) (by decide) (by decide)) dL_law_723 ?_
    refine lv_iload hx hb dL_law_724 (lv_at hl 0 rfl) ?_
    refine lv_i2l hx hb dL_law_726 rfl ?_
    rw [if_pos hc] at hPc2
    rw [if_pos hc] at hPo2
    rw [if_pos hc] at hPm2
    try rw [if_pos hc] at hPm2
    try rw [if_pos hc] at hPm2
    try rw [hc] at hPm2
    have hR := hT.send hc
    refine o_lcmp_eq hx hb dL_law_727 (by rw [if_pos hc, if_pos hc, e0, pk_uLs, hR.2]) ?_
    refine lv_if_eq (tgt := 733) hx hb dL_law_728 (by decide) (fun c9 => ?_) (fun c9 => absurd rfl c9)
    refine lv_goto (tgt := 1324) hx hb dL_law_733 (by decide) ?_
    exact o_widen (k := 177 + 100 * (k + 1)) (n := 3360 + 1100 * (k + 1)) (by omega) (by omega) (nx _ _ _ _ _ _ _ _ _ _ _ _ hR.1 (by have := hH; omega) hPc2 hPm2 hPo2 hS2 (by omega) ls (lv_sub hl [2, 3, 4, 5, 6] rfl))
set_option maxHeartbeats 16000000 in
set_option maxRecDepth 100000 in
theorem law_c736 {p : Program} {l : Launch} {e : Env} {s : State} {m : MethodId} {below : List Frame} {meth : Method} {c : Code} (hst : l.stackTraces = false) {D : va_G} {kl : Nat → ClassId} {a1 v1 a2 v2 a3 v3 a4 v4 a5 v5 t1 t2 b L b0 : Nat} {xs : Nat → Int32} (hL : L ≤ 2048) (C0 : lw_At p s m meth c b L xs) (hE9 : lwE D kl s a1 v1 a2 v2 a3 v3 a4 v4 a5 v5 t1 t2) (hb0 : b0 = s.heap.size) {k : Nat} (hk4 : 4 * k + 4 ≤ L)
    (nx : lNx p l e s m below meth c D kl b b0 k) {α β γ τ σ δ : oT} {nS nO nH : Nat} {f : Nat → Int64} {H : Heap} {locs : List Loc} (hT : rT α β γ τ δ nS nO nH) (hH : nH ≤ 100 * k) (hPc : va_P D vwCl (cw (D, ga b0, kl) (z3 α β γ)) H) (hPm : va_P D vwCl (mw (D, ga (b0 + 137), kl) (z3 τ σ δ)) H) (hPo : va_P D vwCl (lw1 (D, ga b0, kl) (b0 + 176) f) H) (hS : va_S (sFrom b0) s.heap H locs) (hz : b0 + 177 ≤ H.size) {ls : Array Slot} (hl : lv_has ls 9 [(0, .ref b), (1, .ref (ga b0 0)), (2, .ref (ga (b0 + 137) 0)), (3, .ref (b0 + 176)), (4, .int (nI (4 * k)))]) : W p l e room_1 s m #[Value.ref b] below meth c H locs (177 + 100 * k) (3360 + 1100 * k) (lw_Z below #[Value.ref b] s) (F0 m 736 ls []) := by
  obtain ⟨hx, hb, hr, hml, hown, htb, hX, hbl, hlocks, hgv⟩ := C0
  have hts : ∀ w ∈ wsL_law, w.before #[Value.ref b] s = true := fun w hw => htb w (wsL_law_in w hw)
  have hbA : ¬ sFrom b0 b := fun q => by simp only [sFrom] at q; omega
  have hq : ∀ a : Nat, a < s.heap.size → H[a]? = s.heap[a]? := fun a ha => hS.2.1 a ha (fun q => by simp only [sFrom] at q; omega)
  have hIc : wl_I (ga b0) 137 := ga_I _ _
  have hIm : wl_I (ga (b0 + 137)) 39 := ga_I _ _
  have e0 : (0 : Int32).toNatClampNeg = 0 := by decide
  have i1 : vp_in (nI (4 * k) + 1) L := by rw [nI_1]; exact vp_in_nI (by omega) (by omega)
  have i2 : vp_in (nI (4 * k) + 2) L := by rw [show nI (4 * k) + 2 = nI (4 * k + 2) from nI_add _ 2]; exact vp_in_nI (by omega) (by omega)
  have i3 : vp_in (nI (4 * k) + 3) L := by rw [show nI (4 * k) + 3 = nI (4 * k + 3) from nI_add _ 3]; exact vp_in_nI (by omega) (by omega)
  obtain ⟨x1, hx1⟩ : ∃ x, x = xs (nI (4 * k) + 1).toNatClampNeg := ⟨_, rfl⟩
  obtain ⟨x2, hx2⟩ : ∃ x, x = xs (nI (4 * k) + 2).toNatClampNeg := ⟨_, rfl⟩
  obtain ⟨x3, hx3⟩ : ∃ x, x = xs (nI (4 * k) + 3).toNatClampNeg := ⟨_, rfl⟩
  have hlt : cOrgan nO x1 x2 < 4 := by unfold cOrgan; (repeat' split) <;> omega
  refine lv_aload_n hx hb dL_law_736 rfl (lv_at hl 1 rfl) ?_
  refine lv_aload_n hx hb dL_law_737 rfl (lv_at hl 0 rfl) ?_
  refine lv_iload hx hb dL_law_738 (lv_at hl 4 rfl) ?_
  refine lv_iconst (v := 1) hx hb dL_law_740 (by decide) ?_
  refine lv_iadd hx hb dL_law_741 ?_
  refine va_sld hx hb hX hbl hbA hS i1 dL_law_742 ?_
  rw [← hx1]
  refine lv_aload_n hx hb dL_law_743 rfl (lv_at hl 0 rfl) ?_
  refine lv_iload hx hb dL_law_744 (lv_at hl 4 rfl) ?_
  refine lv_iconst (v := 2) hx hb dL_law_746 (by decide) ?_
  refine lv_iadd hx hb dL_law_747 ?_
  refine va_sld hx hb hX hbl hbA hS i2 dL_law_748 ?_
  rw [← hx2]
  refine lv_aload_n hx hb dL_law_749 rfl (lv_at hl 3 rfl) ?_
  refine o_call (vx_runSW (As := [.ref (ga b0 0), .int x1, .int x2, .ref (b0 + 176)]) (rest := []) ⟨hx, hb, hml, hown, hts⟩ (mL_organ l hst (D, ga b0, kl) hIc α β γ nS nO nH hT.1 (b0 + 176) f nao x1 x2) (vx_cwSW 4 hts gL_law_L_organ rfl rfl rfl (by decide +kernel) ⟨(Nat.le_of_ble_eq_true rfl), (Nat.le_of_ble_eq_true rfl)⟩) ⟨lL_blind, lL_pre hPc hPo (hE9.K _) hE9.N hE9.E hE9.C hq⟩ rfl rfl hl.1 rfl (lv_room (Nat.le_of_ble_eq_true rfl)) dL_law_750 ⟨(show 177 + 100 * k + 1 ≤ 846345 by omega), (show 3360 + 1100 * k + 6 ≤ 6557069 by omega)⟩) hS (fun q _ h => sub_L q h) sub_L (fun H1 locs1 hPH hz1 hk1 hS1 => ?_)
  obtain ⟨hPc1, hPo1⟩ := hPH
  have hPm1 := kp_m hPm hk1
  change W _ _ _ _ _ _ _ _ _ _ _ _ _ _ _ (F0 m 753 ls [.int (nI (cOrgan nO x1 x2))])
  refine lv_istore (lv' := [(5, .int (nI (cOrgan nO x1 x2))), (0, .ref b), (1, .ref (ga b0 0)), (2, .ref (ga (b0 + 137) 0)), (3, .ref (b0 + 176)), (4, .int (nI (4 * k)))]) hx hb dL_law_753 hl (by decide) rfl (fun ls hl => ?_)
  refine lv_aload_n hx hb dL_law_755 rfl (lv_at hl 3 rfl) ?_
  refine lv_aload_n hx hb dL_law_756 rfl (lv_at hl 1 rfl) ?_
  refine lv_iload hx hb dL_law_757 (lv_at hl 5 rfl) ?_
  refine lv_iconst (v := 1) hx hb dL_law_759 (by decide) ?_
  refine lv_iadd hx hb dL_law_760 ?_
  refine va_sld hx hb hX hbl hbA hS1 i1 dL_law_761 ?_
  rw [← hx1]
  refine lv_aload_n hx hb dL_law_762 rfl (lv_at hl 1 rfl) ?_
  refine lv_iload hx hb dL_law_763 (lv_at hl 5 rfl) ?_
  refine lv_iconst (v := 2) hx hb dL_law_765 (by decide) ?_
  refine lv_iadd hx hb dL_law_766 ?_
  refine va_sld hx hb hX hbl hbA hS1 i2 dL_law_767 ?_
  rw [← hx2]
  have hM := m_X6_organ l (D, ga (b0 + 137), kl) hIm τ σ δ H1.size nS nO nH hT.q x1 x2
  refine o_call (va_runV (As := [.int x1, .int x2]) (rest := []) (b := ga (b0 + 137) 0) ⟨hx, hb, hml, hown, hts⟩ hM (cwV 2 hts gL_law_X6_organ rfl rfl rfl (by decide +kernel) ⟨(Nat.le_of_ble_eq_true rfl), (Nat.le_of_ble_eq_true rfl)⟩) ⟨oN_blind, va_recv (hE9.K (ga (b0 + 137))) hPm1 (ci := 8) (q0 := 0) rfl (mw_M (D, ga (b0 + 137), kl) _), oN_pre hPm1 (hE9.K _) hE9.N (Nat.le_refl _)⟩ rfl rfl hl.1 rfl (lv_room (Nat.le_of_ble_eq_true rfl)) dL_law_768 ⟨(show 177 + 100 * k + 1 + 1 ≤ 846345 by omega), (show 3360 + 1100 * k + 6 + 11 ≤ 6557069 by omega)⟩) hS1 (fun q _ h => (sub_N (sz := H1.size) (by omega)) q h) (sub_N (sz := H1.size) (by omega)) (fun H2 locs2 hPm2 hz2 hk2 hS2 => ?_)
  have hPc2 := kp_c (sz := H1.size) (by omega) hPc1 hk2
  have hPo2 := kp_o (sz := H1.size) (by omega) hPo1 hk2
  change W _ _ _ _ _ _ _ _ _ _ _ _ _ _ _ (F0 m 771 ls [.int (if cOrgan nO x1 x2 = 0 then mOT τ nS nO (oN x1) (oN x2) else 0)])
  refine lv_istore (lv' := [(6, .int (if cOrgan nO x1 x2 = 0 then mOT τ nS nO (oN x1) (oN x2) else 0)), (5, .int (nI (cOrgan nO x1 x2))), (0, .ref b), (1, .ref (ga b0 0)), (2, .ref (ga (b0 + 137) 0)), (3, .ref (b0 + 176)), (4, .int (nI (4 * k)))]) hx hb dL_law_771 hl (by decide) rfl (fun ls hl => ?_)
  refine lv_aload_n hx hb dL_law_773 rfl (lv_at hl 4 rfl) ?_
  refine o_cVi (q0 := 0) (ci := 8) [] [] ⟨hx, hb, hml, hown, hts⟩ (m_X6_thrown l (D, ga (b0 + 137), kl) _ _ _) (cwV 0 hts gL_law_X6_thrown rfl rfl rfl (by decide +kernel) ⟨(Nat.le_of_ble_eq_true rfl), (Nat.le_of_ble_eq_true rfl)⟩) (hE9.K _) hE9.N hPm2 rfl rfl (mw_M (D, ga (b0 + 137), kl) _) rfl hl.1 rfl (Nat.le_of_ble_eq_true rfl) dL_law_774 ⟨(show 177 + 100 * k + 1 + 1 ≤ 846345 by omega), (show 3360 + 1100 * k + 6 + 11 ≤ 6557069 by omega)⟩ ?_
  rw [mT_41]
  refine lv_iload hx hb dL_law_777 (lv_at hl 1 rfl) ?_
  refine lv_icmp_eq (tgt := 784) hx hb dL_law_779 (by decide) (fun c7 => ?_) (fun c7 => absurd rfl c7)
  refine lv_iload hx hb dL_law_784 (lv_at hl 1 rfl) ?_
  refine lv_if_ne (tgt := 801) hx hb dL_law_786 (by decide) (fun c8 => ?_) (fun c8 => ?_)
  · have hc : ¬ cOrgan nO x1 x2 = 0 := fun h => c8 (by rw [h]; rfl)
    refine lv_goto (tgt := 1324) hx hb dL_law_801 (by decide) ?_
    rw [if_neg hc] at hPo2
    exact o_widen (k := 177 + 100 * (k + 1)) (n := 3360 + 1100 * (k + 1)) (by omega) (by omega) (nx _ _ _ _ _ _ _ _ _ _ _ _ (rT_mT hT _) (by omega) hPc2 hPm2 hPo2 hS2 (by omega) ls (lv_sub hl [2, 3, 4, 5, 6] rfl))
  · have hc : cOrgan nO x1 x2 = 0 := (nI_eq (b := 0) (by omega) (by decide)).mp c8
    refine lv_aload_n hx hb dL_law_789 rfl (lv_at hl 5 rfl) ?_
    refine lv_iconst (v := 0) hx hb dL_law_790 (by decide) ?_
    refine va_lald hx hb (hE9.K (ga b0)) hPo2 0 5 rfl rfl (vp_in_nI (n := 0) (by decide) (by decide)) dL_law_791 ?_
    refine lv_iload hx hb dL_law_792 (lv_at hl 0 rfl) ?_
    refine lv_i2l hx hb dL_law_794 rfl ?_
    rw [if_pos hc] at hPo2
    have hR := hT.organ hc
    refine o_lcmp_eq hx hb dL_law_795 (by rw [if_pos hc, if_pos hc, e0, pk_uLs, hR]) ?_
    refine lv_if_eq (tgt := 801) hx hb dL_law_796 (by decide) (fun c9 => ?_) (fun c9 => absurd rfl c9)
    refine lv_goto (tgt := 1324) hx hb dL_law_801 (by decide) ?_
    exact o_widen (k := 177 + 100 * (k + 1)) (n := 3360 + 1100 * (k + 1)) (by omega) (by omega) (nx _ _ _ _ _ _ _ _ _ _ _ _ (rT_mT hT _) (by have := hH; omega) hPc2 hPm2 hPo2 hS2 (by omega) ls (lv_sub hl [2, 3, 4, 5, 6] rfl))
set_option maxHeartbeats 16000000 in
set_option maxRecDepth 100000 in
theorem law_c804 {p : Program} {l : Launch} {e : Env} {s : State} {m : MethodId} {below : List Frame} {meth : Method} {c : Code} (hst : l.stackTraces = false) {D : va_G} {kl : Nat → ClassId} {a1 v1 a2 v2 a3 v3 a4 v4 a5 v5 t1 t2 b L b0 : Nat} {xs : Nat → Int32} (hL : L ≤ 2048) (C0 : lw_At p s m meth c b L xs) (hE9 : lwE D kl s a1 v1 a2 v2 a3 v3 a4 v4 a5 v5 t1 t2) (hb0 : b0 = s.heap.size) {k : Nat} (hk4 : 4 * k + 4 ≤ L)
    (nx : lNx p l e s m below meth c D kl b b0 k) {α β γ τ σ δ : oT} {nS nO nH : Nat} {f : Nat → Int64} {H : Heap} {locs : List Loc} (hT : rT α β γ τ δ nS nO nH) (hH : nH ≤ 100 * k) (hPc : va_P D vwCl (cw (D, ga b0, kl) (z3 α β γ)) H) (hPm : va_P D vwCl (mw (D, ga (b0 + 137), kl) (z3 τ σ δ)) H) (hPo : va_P D vwCl (lw1 (D, ga b0, kl) (b0 + 176) f) H) (hS : va_S (sFrom b0) s.heap H locs) (hz : b0 + 177 ≤ H.size) {ls : Array Slot} (hl : lv_has ls 9 [(0, .ref b), (1, .ref (ga b0 0)), (2, .ref (ga (b0 + 137) 0)), (3, .ref (b0 + 176)), (4, .int (nI (4 * k)))]) : W p l e room_1 s m #[Value.ref b] below meth c H locs (177 + 100 * k) (3360 + 1100 * k) (lw_Z below #[Value.ref b] s) (F0 m 804 ls []) := by
  obtain ⟨hx, hb, hr, hml, hown, htb, hX, hbl, hlocks, hgv⟩ := C0
  have hts : ∀ w ∈ wsL_law, w.before #[Value.ref b] s = true := fun w hw => htb w (wsL_law_in w hw)
  have hbA : ¬ sFrom b0 b := fun q => by simp only [sFrom] at q; omega
  have hq : ∀ a : Nat, a < s.heap.size → H[a]? = s.heap[a]? := fun a ha => hS.2.1 a ha (fun q => by simp only [sFrom] at q; omega)
  have hIc : wl_I (ga b0) 137 := ga_I _ _
  have hIm : wl_I (ga (b0 + 137)) 39 := ga_I _ _
  have e0 : (0 : Int32).toNatClampNeg = 0 := by decide
  have i1 : vp_in (nI (4 * k) + 1) L := by rw [nI_1]; exact vp_in_nI (by omega) (by omega)
  have i2 : vp_in (nI (4 * k) + 2) L := by rw [show nI (4 * k) + 2 = nI (4 * k + 2) from nI_add _ 2]; exact vp_in_nI (by omega) (by omega)
  have i3 : vp_in (nI (4 * k) + 3) L := by rw [show nI (4 * k) + 3 = nI (4 * k + 3) from nI_add _ 3]; exact vp_in_nI (by omega) (by omega)
  obtain ⟨x1, hx1⟩ : ∃ x, x = xs (nI (4 * k) + 1).toNatClampNeg := ⟨_, rfl⟩
  obtain ⟨x2, hx2⟩ : ∃ x, x = xs (nI (4 * k) + 2).toNatClampNeg := ⟨_, rfl⟩
  obtain ⟨x3, hx3⟩ : ∃ x, x = xs (nI (4 * k) + 3).toNatClampNeg := ⟨_, rfl⟩
  have hlt : cBan nS nO x1 x2 < 4 := by unfold cBan; (repeat' split) <;> omega
  refine lv_aload_n hx hb dL_law_804 rfl (lv_at hl 1 rfl) ?_
  refine lv_aload_n hx hb dL_law_805 rfl (lv_at hl 0 rfl) ?_
  refine lv_iload hx hb dL_law_806 (lv_at hl 4 rfl) ?_
  refine lv_iconst (v := 1) hx hb dL_law_808 (by decide) ?_
  refine lv_iadd hx hb dL_law_809 ?_
  refine va_sld hx hb hX hbl hbA hS i1 dL_law_810 ?_
  rw [← hx1]
  refine lv_aload_n hx hb dL_law_811 rfl (lv_at hl 0 rfl) ?_
  refine lv_iload hx hb dL_law_812 (lv_at hl 4 rfl) ?_
  refine lv_iconst (v := 2) hx hb dL_law_814 (by decide) ?_
  refine lv_iadd hx hb dL_law_815 ?_
  refine va_sld hx hb hX hbl hbA hS i2 dL_law_816 ?_
  rw [← hx2]
  refine lv_aload_n hx hb dL_law_817 rfl (lv_at hl 3 rfl) ?_
  refine o_call (vx_runSW (As := [.ref (ga b0 0), .int x1, .int x2, .ref (b0 + 176)]) (rest := []) ⟨hx, hb, hml, hown, hts⟩ (mL_banished l hst (D, ga b0, kl) hIc α β γ nS nO nH hT.1 (b0 + 176) f nao x1 x2) (vx_cwSW 4 hts gL_law_L_banished rfl rfl rfl (by decide +kernel) ⟨(Nat.le_of_ble_eq_true rfl), (Nat.le_of_ble_eq_true rfl)⟩) ⟨lL_blind, lL_pre hPc hPo (hE9.K _) hE9.N hE9.E hE9.C hq⟩ rfl rfl hl.1 rfl (lv_room (Nat.le_of_ble_eq_true rfl)) dL_law_818 ⟨(show 177 + 100 * k + 1 ≤ 846345 by omega), (show 3360 + 1100 * k + 6 ≤ 6557069 by omega)⟩) hS (fun q _ h => sub_L q h) sub_L (fun H1 locs1 hPH hz1 hk1 hS1 => ?_)
  obtain ⟨hPc1, hPo1⟩ := hPH
  have hPm1 := kp_m hPm hk1
  change W _ _ _ _ _ _ _ _ _ _ _ _ _ _ _ (F0 m 821 ls [.int (nI (cBan nS nO x1 x2))])
  refine lv_istore (lv' := [(5, .int (nI (cBan nS nO x1 x2))), (0, .ref b), (1, .ref (ga b0 0)), (2, .ref (ga (b0 + 137) 0)), (3, .ref (b0 + 176)), (4, .int (nI (4 * k)))]) hx hb dL_law_821 hl (by decide) rfl (fun ls hl => ?_)
  refine lv_aload_n hx hb dL_law_823 rfl (lv_at hl 3 rfl) ?_
  refine lv_aload_n hx hb dL_law_824 rfl (lv_at hl 1 rfl) ?_
  refine lv_iload hx hb dL_law_825 (lv_at hl 5 rfl) ?_
  refine lv_iconst (v := 1) hx hb dL_law_827 (by decide) ?_
  refine lv_iadd hx hb dL_law_828 ?_
  refine va_sld hx hb hX hbl hbA hS1 i1 dL_law_829 ?_
  rw [← hx1]
  refine lv_aload_n hx hb dL_law_830 rfl (lv_at hl 1 rfl) ?_
  refine lv_iload hx hb dL_law_831 (lv_at hl 5 rfl) ?_
  refine lv_iconst (v := 2) hx hb dL_law_833 (by decide) ?_
  refine lv_iadd hx hb dL_law_834 ?_
  refine va_sld hx hb hX hbl hbA hS1 i2 dL_law_835 ?_
  rw [← hx2]
  have hM := m_X6_banished l (D, ga (b0 + 137), kl) hIm τ σ δ nS nO nH hT.q x1 x2
  refine o_call (va_runV (As := [.int x1, .int x2]) (rest := []) (b := ga (b0 + 137) 0) ⟨hx, hb, hml, hown, hts⟩ hM (cwV 2 hts gL_law_X6_banished rfl rfl rfl (by decide +kernel) ⟨(Nat.le_of_ble_eq_true rfl), (Nat.le_of_ble_eq_true rfl)⟩) ⟨o_blind, va_recv (hE9.K (ga (b0 + 137))) hPm1 (ci := 8) (q0 := 0) rfl (mw_M (D, ga (b0 + 137), kl) _), o_pre hPm1 (hE9.K _) hE9.N⟩ rfl rfl hl.1 rfl (lv_room (Nat.le_of_ble_eq_true rfl)) dL_law_836 ⟨(show 177 + 100 * k + 1 + 0 ≤ 846345 by omega), (show 3360 + 1100 * k + 6 + 0 ≤ 6557069 by omega)⟩) hS1 (fun q _ h => sub_M q h) sub_M (fun H2 locs2 hPm2 hz2 hk2 hS2 => ?_)
  have hPc2 := kp_c (Nat.le_refl (b0 + 177)) hPc1 (kp_AN hk2)
  have hPo2 := kp_o (Nat.le_refl (b0 + 177)) hPo1 (kp_AN hk2)
  change W _ _ _ _ _ _ _ _ _ _ _ _ _ _ _ (F0 m 839 ls [.int (if cBan nS nO x1 x2 = 0 then τ 15 0 (6 * oN x1 + oN x2) else 0)])
  refine lv_istore (lv' := [(6, .int (if cBan nS nO x1 x2 = 0 then τ 15 0 (6 * oN x1 + oN x2) else 0)), (5, .int (nI (cBan nS nO x1 x2))), (0, .ref b), (1, .ref (ga b0 0)), (2, .ref (ga (b0 + 137) 0)), (3, .ref (b0 + 176)), (4, .int (nI (4 * k)))]) hx hb dL_law_839 hl (by decide) rfl (fun ls hl => ?_)
  refine lv_aload_n hx hb dL_law_841 rfl (lv_at hl 4 rfl) ?_
  refine o_cVi (q0 := 0) (ci := 8) [] [] ⟨hx, hb, hml, hown, hts⟩ (m_X6_thrown l (D, ga (b0 + 137), kl) _ _ _) (cwV 0 hts gL_law_X6_thrown rfl rfl rfl (by decide +kernel) ⟨(Nat.le_of_ble_eq_true rfl), (Nat.le_of_ble_eq_true rfl)⟩) (hE9.K _) hE9.N hPm2 rfl rfl (mw_M (D, ga (b0 + 137), kl) _) rfl hl.1 rfl (Nat.le_of_ble_eq_true rfl) dL_law_842 ⟨(show 177 + 100 * k + 1 + 0 ≤ 846345 by omega), (show 3360 + 1100 * k + 6 + 0 ≤ 6557069 by omega)⟩ ?_
  rw [mT_41]
  refine lv_iload hx hb dL_law_845 (lv_at hl 1 rfl) ?_
  refine lv_icmp_eq (tgt := 852) hx hb dL_law_847 (by decide) (fun c7 => ?_) (fun c7 => absurd rfl c7)
  refine lv_iload hx hb dL_law_852 (lv_at hl 1 rfl) ?_
  refine lv_if_ne (tgt := 869) hx hb dL_law_854 (by decide) (fun c8 => ?_) (fun c8 => ?_)
  · have hc : ¬ cBan nS nO x1 x2 = 0 := fun h => c8 (by rw [h]; rfl)
    refine lv_goto (tgt := 1324) hx hb dL_law_869 (by decide) ?_
    rw [if_neg hc] at hPo2
    exact o_widen (k := 177 + 100 * (k + 1)) (n := 3360 + 1100 * (k + 1)) (by omega) (by omega) (nx _ _ _ _ _ _ _ _ _ _ _ _ (rT_mT hT _) (by omega) hPc2 hPm2 hPo2 hS2 (by omega) ls (lv_sub hl [2, 3, 4, 5, 6] rfl))
  · have hc : cBan nS nO x1 x2 = 0 := (nI_eq (b := 0) (by omega) (by decide)).mp c8
    refine lv_aload_n hx hb dL_law_857 rfl (lv_at hl 5 rfl) ?_
    refine lv_iconst (v := 0) hx hb dL_law_858 (by decide) ?_
    refine va_lald hx hb (hE9.K (ga b0)) hPo2 0 5 rfl rfl (vp_in_nI (n := 0) (by decide) (by decide)) dL_law_859 ?_
    refine lv_iload hx hb dL_law_860 (lv_at hl 0 rfl) ?_
    refine lv_i2l hx hb dL_law_862 rfl ?_
    rw [if_pos hc] at hPo2
    have hR := hT.ban hc
    refine o_lcmp_eq hx hb dL_law_863 (by rw [if_pos hc, if_pos hc, e0, pk_uLs, hR]) ?_
    refine lv_if_eq (tgt := 869) hx hb dL_law_864 (by decide) (fun c9 => ?_) (fun c9 => absurd rfl c9)
    refine lv_goto (tgt := 1324) hx hb dL_law_869 (by decide) ?_
    exact o_widen (k := 177 + 100 * (k + 1)) (n := 3360 + 1100 * (k + 1)) (by omega) (by omega) (nx _ _ _ _ _ _ _ _ _ _ _ _ (rT_mT hT _) (by have := hH; omega) hPc2 hPm2 hPo2 hS2 (by omega) ls (lv_sub hl [2, 3, 4, 5, 6] rfl))
set_option maxHeartbeats 16000000 in
set_option maxRecDepth 100000 in
theorem law_c872 {p : Program} {l : Launch} {e : Env} {s : State} {m : MethodId} {below : List Frame} {meth : Method} {c : Code} (hst : l.stackTraces = false) {D : va_G} {kl : Nat → ClassId} {a1 v1 a2 v2 a3 v3 a4 v4 a5 v5 t1 t2 b L b0 : Nat} {xs : Nat → Int32} (hL : L ≤ 2048) (C0 : lw_At p s m meth c b L xs) (hE9 : lwE D kl s a1 v1 a2 v2 a3 v3 a4 v4 a5 v5 t1 t2) (hb0 : b0 = s.heap.size) {k : Nat} (hk4 : 4 * k + 4 ≤ L)
    (nx : lNx p l e s m below meth c D kl b b0 k) {α β γ τ σ δ : oT} {nS nO nH : Nat} {f : Nat → Int64} {H : Heap} {locs : List Loc} (hT : rT α β γ τ δ nS nO nH) (hH : nH ≤ 100 * k) (hPc : va_P D vwCl (cw (D, ga b0, kl) (z3 α β γ)) H) (hPm : va_P D vwCl (mw (D, ga (b0 + 137), kl) (z3 τ σ δ)) H) (hPo : va_P D vwCl (lw1 (D, ga b0, kl) (b0 + 176) f) H) (hS : va_S (sFrom b0) s.heap H locs) (hz : b0 + 177 ≤ H.size) {ls : Array Slot} (hl : lv_has ls 9 [(0, .ref b), (1, .ref (ga b0 0)), (2, .ref (ga (b0 + 137) 0)), (3, .ref (b0 + 176)), (4, .int (nI (4 * k)))]) : W p l e room_1 s m #[Value.ref b] below meth c H locs (177 + 100 * k) (3360 + 1100 * k) (lw_Z below #[Value.ref b] s) (F0 m 872 ls []) := by
  obtain ⟨hx, hb, hr, hml, hown, htb, hX, hbl, hlocks, hgv⟩ := C0
  have hts : ∀ w ∈ wsL_law, w.before #[Value.ref b] s = true := fun w hw => htb w (wsL_law_in w hw)
  have hbA : ¬ sFrom b0 b := fun q => by simp only [sFrom] at q; omega
  have hq : ∀ a : Nat, a < s.heap.size → H[a]? = s.heap[a]? := fun a ha => hS.2.1 a ha (fun q => by simp only [sFrom] at q; omega)
  have hIc : wl_I (ga b0) 137 := ga_I _ _
  have hIm : wl_I (ga (b0 + 137)) 39 := ga_I _ _
  have e0 : (0 : Int32).toNatClampNeg = 0 := by decide
  have i1 : vp_in (nI (4 * k) + 1) L := by rw [nI_1]; exact vp_in_nI (by omega) (by omega)
  have i2 : vp_in (nI (4 * k) + 2) L := by rw [show nI (4 * k) + 2 = nI (4 * k + 2) from nI_add _ 2]; exact vp_in_nI (by omega) (by omega)
  have i3 : vp_in (nI (4 * k) + 3) L := by rw [show nI (4 * k) + 3 = nI (4 * k + 3) from nI_add _ 3]; exact vp_in_nI (by omega) (by omega)
  obtain ⟨x1, hx1⟩ : ∃ x, x = xs (nI (4 * k) + 1).toNatClampNeg := ⟨_, rfl⟩
  obtain ⟨x2, hx2⟩ : ∃ x, x = xs (nI (4 * k) + 2).toNatClampNeg := ⟨_, rfl⟩
  obtain ⟨x3, hx3⟩ : ∃ x, x = xs (nI (4 * k) + 3).toNatClampNeg := ⟨_, rfl⟩
  have hlt : cHeard nS (oNp α) x1 x2 < 4 := by unfold cHeard; (repeat' split) <;> omega
  refine lv_aload_n hx hb dL_law_872 rfl (lv_at hl 1 rfl) ?_
  refine lv_aload_n hx hb dL_law_873 rfl (lv_at hl 0 rfl) ?_
  refine lv_iload hx hb dL_law_874 (lv_at hl 4 rfl) ?_
  refine lv_iconst (v := 1) hx hb dL_law_876 (by decide) ?_
  refine lv_iadd hx hb dL_law_877 ?_
  refine va_sld hx hb hX hbl hbA hS i1 dL_law_878 ?_
  rw [← hx1]
  refine lv_aload_n hx hb dL_law_879 rfl (lv_at hl 0 rfl) ?_
  refine lv_iload hx hb dL_law_880 (lv_at hl 4 rfl) ?_
  refine lv_iconst (v := 2) hx hb dL_law_882 (by decide) ?_
  refine lv_iadd hx hb dL_law_883 ?_
  refine va_sld hx hb hX hbl hbA hS i2 dL_law_884 ?_
  rw [← hx2]
  refine lv_aload_n hx hb dL_law_885 rfl (lv_at hl 3 rfl) ?_
  refine o_call (vx_runSW (As := [.ref (ga b0 0), .int x1, .int x2, .ref (b0 + 176)]) (rest := []) ⟨hx, hb, hml, hown, hts⟩ (mL_heard l hst (D, ga b0, kl) hIc α β γ nS nO nH hT.1 (b0 + 176) f nao x1 x2) (vx_cwSW 4 hts gL_law_L_heard rfl rfl rfl (by decide +kernel) ⟨(Nat.le_of_ble_eq_true rfl), (Nat.le_of_ble_eq_true rfl)⟩) ⟨lL_blind, lL_pre hPc hPo (hE9.K _) hE9.N hE9.E hE9.C hq⟩ rfl rfl hl.1 rfl (lv_room (Nat.le_of_ble_eq_true rfl)) dL_law_886 ⟨(show 177 + 100 * k + 1 ≤ 846345 by omega), (show 3360 + 1100 * k + 6 ≤ 6557069 by omega)⟩) hS (fun q _ h => sub_L q h) sub_L (fun H1 locs1 hPH hz1 hk1 hS1 => ?_)
  obtain ⟨hPc1, hPo1⟩ := hPH
  have hPm1 := kp_m hPm hk1
  change W _ _ _ _ _ _ _ _ _ _ _ _ _ _ _ (F0 m 889 ls [.int (nI (cHeard nS (oNp α) x1 x2))])
  refine lv_istore (lv' := [(5, .int (nI (cHeard nS (oNp α) x1 x2))), (0, .ref b), (1, .ref (ga b0 0)), (2, .ref (ga (b0 + 137) 0)), (3, .ref (b0 + 176)), (4, .int (nI (4 * k)))]) hx hb dL_law_889 hl (by decide) rfl (fun ls hl => ?_)
  refine lv_aload_n hx hb dL_law_891 rfl (lv_at hl 3 rfl) ?_
  refine lv_aload_n hx hb dL_law_892 rfl (lv_at hl 1 rfl) ?_
  refine lv_iload hx hb dL_law_893 (lv_at hl 5 rfl) ?_
  refine lv_iconst (v := 1) hx hb dL_law_895 (by decide) ?_
  refine lv_iadd hx hb dL_law_896 ?_
  refine va_sld hx hb hX hbl hbA hS1 i1 dL_law_897 ?_
  rw [← hx1]
  refine lv_aload_n hx hb dL_law_898 rfl (lv_at hl 1 rfl) ?_
  refine lv_iload hx hb dL_law_899 (lv_at hl 5 rfl) ?_
  refine lv_iconst (v := 2) hx hb dL_law_901 (by decide) ?_
  refine lv_iadd hx hb dL_law_902 ?_
  refine va_sld hx hb hX hbl hbA hS1 i2 dL_law_903 ?_
  rw [← hx2]
  have hM := m_X6_heard l (D, ga (b0 + 137), kl) hIm τ σ δ nS nO nH hT.q x1 x2
  rw [← hT.cHeard x1 x2] at hM
  refine o_call (va_runV (As := [.int x1, .int x2]) (rest := []) (b := ga (b0 + 137) 0) ⟨hx, hb, hml, hown, hts⟩ hM (cwV 2 hts gL_law_X6_heard rfl rfl rfl (by decide +kernel) ⟨(Nat.le_of_ble_eq_true rfl), (Nat.le_of_ble_eq_true rfl)⟩) ⟨o_blind, va_recv (hE9.K (ga (b0 + 137))) hPm1 (ci := 8) (q0 := 0) rfl (mw_M (D, ga (b0 + 137), kl) _), o_pre hPm1 (hE9.K _) hE9.N⟩ rfl rfl hl.1 rfl (lv_room (Nat.le_of_ble_eq_true rfl)) dL_law_904 ⟨(show 177 + 100 * k + 1 + 0 ≤ 846345 by omega), (show 3360 + 1100 * k + 6 + 0 ≤ 6557069 by omega)⟩) hS1 (fun q _ h => sub_M q h) sub_M (fun H2 locs2 hPm2 hz2 hk2 hS2 => ?_)
  have hPc2 := kp_c (Nat.le_refl (b0 + 177)) hPc1 (kp_AN hk2)
  have hPo2 := kp_o (Nat.le_refl (b0 + 177)) hPo1 (kp_AN hk2)
  change W _ _ _ _ _ _ _ _ _ _ _ _ _ _ _ (F0 m 907 ls [.int (if cHeard nS (oNp α) x1 x2 = 0 then qHeard τ nO x1 x2 else 0)])
  refine lv_istore (lv' := [(6, .int (if cHeard nS (oNp α) x1 x2 = 0 then qHeard τ nO x1 x2 else 0)), (5, .int (nI (cHeard nS (oNp α) x1 x2))), (0, .ref b), (1, .ref (ga b0 0)), (2, .ref (ga (b0 + 137) 0)), (3, .ref (b0 + 176)), (4, .int (nI (4 * k)))]) hx hb dL_law_907 hl (by decide) rfl (fun ls hl => ?_)
  refine lv_aload_n hx hb dL_law_909 rfl (lv_at hl 4 rfl) ?_
  refine o_cVi (q0 := 0) (ci := 8) [] [] ⟨hx, hb, hml, hown, hts⟩ (m_X6_thrown l (D, ga (b0 + 137), kl) _ _ _) (cwV 0 hts gL_law_X6_thrown rfl rfl rfl (by decide +kernel) ⟨(Nat.le_of_ble_eq_true rfl), (Nat.le_of_ble_eq_true rfl)⟩) (hE9.K _) hE9.N hPm2 rfl rfl (mw_M (D, ga (b0 + 137), kl) _) rfl hl.1 rfl (Nat.le_of_ble_eq_true rfl) dL_law_910 ⟨(show 177 + 100 * k + 1 + 0 ≤ 846345 by omega), (show 3360 + 1100 * k + 6 + 0 ≤ 6557069 by omega)⟩ ?_
  rw [mT_41]
  refine lv_iload hx hb dL_law_913 (lv_at hl 1 rfl) ?_
  refine lv_icmp_eq (tgt := 920) hx hb dL_law_915 (by decide) (fun c7 => ?_) (fun c7 => absurd rfl c7)
  refine lv_iload hx hb dL_law_920 (lv_at hl 1 rfl) ?_
  refine lv_if_ne (tgt := 937) hx hb dL_law_922 (by decide) (fun c8 => ?_) (fun c8 => ?_)
  · have hc : ¬ cHeard nS (oNp α) x1 x2 = 0 := fun h => c8 (by rw [h]; rfl)
    refine lv_goto (tgt := 1324) hx hb dL_law_937 (by decide) ?_
    rw [if_neg hc] at hPo2
    exact o_widen (k := 177 + 100 * (k + 1)) (n := 3360 + 1100 * (k + 1)) (by omega) (by omega) (nx _ _ _ _ _ _ _ _ _ _ _ _ (rT_mT hT _) (by omega) hPc2 hPm2 hPo2 hS2 (by omega) ls (lv_sub hl [2, 3, 4, 5, 6] rfl))
  · have hc : cHeard nS (oNp α) x1 x2 = 0 := (nI_eq (b := 0) (by omega) (by decide)).mp c8
    refine lv_aload_n hx hb dL_law_925 rfl (lv_at hl 5 rfl) ?_
    refine lv_iconst (v := 0) hx hb dL_law_926 (by decide) ?_
    refine va_lald hx hb (hE9.K (ga b0)) hPo2 0 5 rfl rfl (vp_in_nI (n := 0) (by decide) (by decide)) dL_law_927 ?_
    refine lv_iload hx hb dL_law_928 (lv_at hl 0 rfl) ?_
    refine lv_i2l hx hb dL_law_930 rfl ?_
    rw [if_pos hc] at hPo2
    have hR := hT.heard (x := x1) (y := x2)
    refine o_lcmp_eq hx hb dL_law_931 (by rw [if_pos hc, if_pos hc, e0, pk_uLs, hR]) ?_
    refine lv_if_eq (tgt := 937) hx hb dL_law_932 (by decide) (fun c9 => ?_) (fun c9 => absurd rfl c9)
    refine lv_goto (tgt := 1324) hx hb dL_law_937 (by decide) ?_
    exact o_widen (k := 177 + 100 * (k + 1)) (n := 3360 + 1100 * (k + 1)) (by omega) (by omega) (nx _ _ _ _ _ _ _ _ _ _ _ _ (rT_mT hT _) (by have := hH; omega) hPc2 hPm2 hPo2 hS2 (by omega) ls (lv_sub hl [2, 3, 4, 5, 6] rfl))
set_option maxHeartbeats 16000000 in
set_option maxRecDepth 100000 in
theorem law_c940 {p : Program} {l : Launch} {e : Env} {s : State} {m : MethodId} {below : List Frame} {meth : Method} {c : Code} (hst : l.stackTraces = false) {D : va_G} {kl : Nat → ClassId} {a1 v1 a2 v2 a3 v3 a4 v4 a5 v5 t1 t2 b L b0 : Nat} {xs : Nat → Int32} (hL : L ≤ 2048) (C0 : lw_At p s m meth c b L xs) (hE9 : lwE D kl s a1 v1 a2 v2 a3 v3 a4 v4 a5 v5 t1 t2) (hb0 : b0 = s.heap.size) {k : Nat} (hk4 : 4 * k + 4 ≤ L)
    (nx : lNx p l e s m below meth c D kl b b0 k) {α β γ τ σ δ : oT} {nS nO nH : Nat} {f : Nat → Int64} {H : Heap} {locs : List Loc} (hT : rT α β γ τ δ nS nO nH) (hH : nH ≤ 100 * k) (hPc : va_P D vwCl (cw (D, ga b0, kl) (z3 α β γ)) H) (hPm : va_P D vwCl (mw (D, ga (b0 + 137), kl) (z3 τ σ δ)) H) (hPo : va_P D vwCl (lw1 (D, ga b0, kl) (b0 + 176) f) H) (hS : va_S (sFrom b0) s.heap H locs) (hz : b0 + 177 ≤ H.size) {ls : Array Slot} (hl : lv_has ls 9 [(0, .ref b), (1, .ref (ga b0 0)), (2, .ref (ga (b0 + 137) 0)), (3, .ref (b0 + 176)), (4, .int (nI (4 * k)))]) : W p l e room_1 s m #[Value.ref b] below meth c H locs (177 + 100 * k) (3360 + 1100 * k) (lw_Z below #[Value.ref b] s) (F0 m 940 ls []) := by
  obtain ⟨hx, hb, hr, hml, hown, htb, hX, hbl, hlocks, hgv⟩ := C0
  have hts : ∀ w ∈ wsL_law, w.before #[Value.ref b] s = true := fun w hw => htb w (wsL_law_in w hw)
  have hbA : ¬ sFrom b0 b := fun q => by simp only [sFrom] at q; omega
  have hq : ∀ a : Nat, a < s.heap.size → H[a]? = s.heap[a]? := fun a ha => hS.2.1 a ha (fun q => by simp only [sFrom] at q; omega)
  have hIc : wl_I (ga b0) 137 := ga_I _ _
  have hIm : wl_I (ga (b0 + 137)) 39 := ga_I _ _
  have e0 : (0 : Int32).toNatClampNeg = 0 := by decide
  have i1 : vp_in (nI (4 * k) + 1) L := by rw [nI_1]; exact vp_in_nI (by omega) (by omega)
  have i2 : vp_in (nI (4 * k) + 2) L := by rw [show nI (4 * k) + 2 = nI (4 * k + 2) from nI_add _ 2]; exact vp_in_nI (by omega) (by omega)
  have i3 : vp_in (nI (4 * k) + 3) L := by rw [show nI (4 * k) + 3 = nI (4 * k + 3) from nI_add _ 3]; exact vp_in_nI (by omega) (by omega)
  obtain ⟨x1, hx1⟩ : ∃ x, x = xs (nI (4 * k) + 1).toNatClampNeg := ⟨_, rfl⟩
  obtain ⟨x2, hx2⟩ : ∃ x, x = xs (nI (4 * k) + 2).toNatClampNeg := ⟨_, rfl⟩
  obtain ⟨x3, hx3⟩ : ∃ x, x = xs (nI (4 * k) + 3).toNatClampNeg := ⟨_, rfl⟩
  have hlt : cPass x1 < 4 := by unfold cPass; (repeat' split) <;> omega
  refine lv_aload_n hx hb dL_law_940 rfl (lv_at hl 1 rfl) ?_
  refine lv_aload_n hx hb dL_law_941 rfl (lv_at hl 0 rfl) ?_
  refine lv_iload hx hb dL_law_942 (lv_at hl 4 rfl) ?_
  refine lv_iconst (v := 1) hx hb dL_law_944 (by decide) ?_
  refine lv_iadd hx hb dL_law_945 ?_
  refine va_sld hx hb hX hbl hbA hS i1 dL_law_946 ?_
  rw [← hx1]
  refine lv_aload_n hx hb dL_law_947 rfl (lv_at hl 3 rfl) ?_
  refine o_call (vx_runSW (As := [.ref (ga b0 0), .int x1, .ref (b0 + 176)]) (rest := []) ⟨hx, hb, hml, hown, hts⟩ (mL_pass l hst (D, ga b0, kl) hIc α β γ nS nO nH hT.1 (by omega) (b0 + 176) f nao x1) (vx_cwSW 3 hts gL_law_L_pass rfl rfl rfl (by decide +kernel) ⟨(Nat.le_of_ble_eq_true rfl), (Nat.le_of_ble_eq_true rfl)⟩) ⟨lL_blind, lL_pre hPc hPo (hE9.K _) hE9.N hE9.E hE9.C hq⟩ rfl rfl hl.1 rfl (lv_room (Nat.le_of_ble_eq_true rfl)) dL_law_948 ⟨(show 177 + 100 * k + 1 ≤ 846345 by omega), (show 3360 + 1100 * k + 6 ≤ 6557069 by omega)⟩) hS (fun q _ h => sub_L q h) sub_L (fun H1 locs1 hPH hz1 hk1 hS1 => ?_)
  obtain ⟨hPc1, hPo1⟩ := hPH
  have hPm1 := kp_m hPm hk1
  change W _ _ _ _ _ _ _ _ _ _ _ _ _ _ _ (F0 m 951 ls [.int (nI (cPass x1))])
  refine lv_istore (lv' := [(5, .int (nI (cPass x1))), (0, .ref b), (1, .ref (ga b0 0)), (2, .ref (ga (b0 + 137) 0)), (3, .ref (b0 + 176)), (4, .int (nI (4 * k)))]) hx hb dL_law_951 hl (by decide) rfl (fun ls hl => ?_)
  refine lv_aload_n hx hb dL_law_953 rfl (lv_at hl 3 rfl) ?_
  refine lv_aload_n hx hb dL_law_954 rfl (lv_at hl 1 rfl) ?_
  refine lv_iload hx hb dL_law_955 (lv_at hl 5 rfl) ?_
  refine lv_iconst (v := 1) hx hb dL_law_957 (by decide) ?_
  refine lv_iadd hx hb dL_law_958 ?_
  refine va_sld hx hb hX hbl hbA hS1 i1 dL_law_959 ?_
  rw [← hx1]
  have hM := m_X6_pass_ l (D, ga (b0 + 137), kl) hIm τ σ δ nS nO nH hT.q (by omega) x1
  refine o_call (va_runV (As := [.int x1]) (rest := []) (b := ga (b0 + 137) 0) ⟨hx, hb, hml, hown, hts⟩ hM (cwV 1 hts gL_law_X6_pass_ rfl rfl rfl (by decide +kernel) ⟨(Nat.le_of_ble_eq_true rfl), (Nat.le_of_ble_eq_true rfl)⟩) ⟨o_blind, va_recv (hE9.K (ga (b0 + 137))) hPm1 (ci := 8) (q0 := 0) rfl (mw_M (D, ga (b0 + 137), kl) _), o_pre hPm1 (hE9.K _) hE9.N⟩ rfl rfl hl.1 rfl (lv_room (Nat.le_of_ble_eq_true rfl)) dL_law_960 ⟨(show 177 + 100 * k + 1 + 0 ≤ 846345 by omega), (show 3360 + 1100 * k + 6 + 0 ≤ 6557069 by omega)⟩) hS1 (fun q _ h => sub_M q h) sub_M (fun H2 locs2 hPm2 hz2 hk2 hS2 => ?_)
  have hPc2 := kp_c (Nat.le_refl (b0 + 177)) hPc1 (kp_AN hk2)
  have hPo2 := kp_o (Nat.le_refl (b0 + 177)) hPo1 (kp_AN hk2)
  change W _ _ _ _ _ _ _ _ _ _ _ _ _ _ _ (F0 m 963 ls [.int (if cPass x1 = 0 then qPs τ (δ 42 0) nS nO nH (oN x1) else 0)])
  refine lv_istore (lv' := [(6, .int (if cPass x1 = 0 then qPs τ (δ 42 0) nS nO nH (oN x1) else 0)), (5, .int (nI (cPass x1))), (0, .ref b), (1, .ref (ga b0 0)), (2, .ref (ga (b0 + 137) 0)), (3, .ref (b0 + 176)), (4, .int (nI (4 * k)))]) hx hb dL_law_963 hl (by decide) rfl (fun ls hl => ?_)
  refine lv_aload_n hx hb dL_law_965 rfl (lv_at hl 4 rfl) ?_
  refine o_cVi (q0 := 0) (ci := 8) [] [] ⟨hx, hb, hml, hown, hts⟩ (m_X6_thrown l (D, ga (b0 + 137), kl) _ _ _) (cwV 0 hts gL_law_X6_thrown rfl rfl rfl (by decide +kernel) ⟨(Nat.le_of_ble_eq_true rfl), (Nat.le_of_ble_eq_true rfl)⟩) (hE9.K _) hE9.N hPm2 rfl rfl (mw_M (D, ga (b0 + 137), kl) _) rfl hl.1 rfl (Nat.le_of_ble_eq_true rfl) dL_law_966 ⟨(show 177 + 100 * k + 1 + 0 ≤ 846345 by omega), (show 3360 + 1100 * k + 6 + 0 ≤ 6557069 by omega)⟩ ?_
  rw [mT_41]
  refine lv_iload hx hb dL_law_969 (lv_at hl 1 rfl) ?_
  refine lv_icmp_eq (tgt := 976) hx hb dL_law_971 (by decide) (fun c7 => ?_) (fun c7 => absurd rfl c7)
  refine lv_iload hx hb dL_law_976 (lv_at hl 1 rfl) ?_
  refine lv_if_ne (tgt := 993) hx hb dL_law_978 (by decide) (fun c8 => ?_) (fun c8 => ?_)
  · have hc : ¬ cPass x1 = 0 := fun h => c8 (by rw [h]; rfl)
    refine lv_goto (tgt := 1324) hx hb dL_law_993 (by decide) ?_
    rw [if_neg hc] at hPc2
    rw [if_neg hc] at hPo2
    rw [if_neg hc] at hPm2
    try rw [if_neg hc] at hPm2
    try rw [if_neg hc] at hPm2
    exact o_widen (k := 177 + 100 * (k + 1)) (n := 3360 + 1100 * (k + 1)) (by omega) (by omega) (nx _ _ _ _ _ _ _ _ _ _ _ _ (rT_mT hT _) (by omega) hPc2 hPm2 hPo2 hS2 (by omega) ls (lv_sub hl [2, 3, 4, 5, 6] rfl))
  · have hc : cPass x1 = 0 := (nI_eq (b := 0) (by omega) (by decide)).mp c8
    refine lv_aload_n hx hb dL_law_981 rfl (lv_at hl 5 rfl) ?_
    refine lv_iconst (v := 0) hx hb dL_law_982 (by decide) ?_
    refine va_lald hx hb (hE9.K (ga b0)) hPo2 0 5 rfl rfl (vp_in_nI (n := 0) (by decide) (by decide)) dL_law_983 ?_
    refine lv_iload hx hb dL_law_984 (lv_at hl 0 rfl) ?_
    refine lv_i2l hx hb dL_law_986 rfl ?_
    rw [if_pos hc] at hPc2
    rw [if_pos hc] at hPo2
    rw [if_pos hc] at hPm2
    try rw [if_pos hc] at hPm2
    try rw [if_pos hc] at hPm2
    try rw [hc] at hPm2
    have hR := hT.pass (by omega) hc
    refine o_lcmp_eq hx hb dL_law_987 (by rw [if_pos hc, if_pos hc, e0, pk_uLs, hR.2]) ?_
    refine lv_if_eq (tgt := 993) hx hb dL_law_988 (by decide) (fun c9 => ?_) (fun c9 => absurd rfl c9)
    refine lv_goto (tgt := 1324) hx hb dL_law_993 (by decide) ?_
    exact o_widen (k := 177 + 100 * (k + 1)) (n := 3360 + 1100 * (k + 1)) (by omega) (by omega) (nx _ _ _ _ _ _ _ _ _ _ _ _ hR.1 (by have := hH; have := (cPass_0 hc).1; omega) hPc2 hPm2 hPo2 hS2 (by omega) ls (lv_sub hl [2, 3, 4, 5, 6] rfl))
set_option maxHeartbeats 16000000 in
set_option maxRecDepth 100000 in
theorem law_c996 {p : Program} {l : Launch} {e : Env} {s : State} {m : MethodId} {below : List Frame} {meth : Method} {c : Code} (hst : l.stackTraces = false) {D : va_G} {kl : Nat → ClassId} {a1 v1 a2 v2 a3 v3 a4 v4 a5 v5 t1 t2 b L b0 : Nat} {xs : Nat → Int32} (hL : L ≤ 2048) (C0 : lw_At p s m meth c b L xs) (hE9 : lwE D kl s a1 v1 a2 v2 a3 v3 a4 v4 a5 v5 t1 t2) (hb0 : b0 = s.heap.size) {k : Nat} (hk4 : 4 * k + 4 ≤ L)
    (nx : lNx p l e s m below meth c D kl b b0 k) {α β γ τ σ δ : oT} {nS nO nH : Nat} {f : Nat → Int64} {H : Heap} {locs : List Loc} (hT : rT α β γ τ δ nS nO nH) (hH : nH ≤ 100 * k) (hPc : va_P D vwCl (cw (D, ga b0, kl) (z3 α β γ)) H) (hPm : va_P D vwCl (mw (D, ga (b0 + 137), kl) (z3 τ σ δ)) H) (hPo : va_P D vwCl (lw1 (D, ga b0, kl) (b0 + 176) f) H) (hS : va_S (sFrom b0) s.heap H locs) (hz : b0 + 177 ≤ H.size) {ls : Array Slot} (hl : lv_has ls 9 [(0, .ref b), (1, .ref (ga b0 0)), (2, .ref (ga (b0 + 137) 0)), (3, .ref (b0 + 176)), (4, .int (nI (4 * k)))]) : W p l e room_1 s m #[Value.ref b] below meth c H locs (177 + 100 * k) (3360 + 1100 * k) (lw_Z below #[Value.ref b] s) (F0 m 996 ls []) := by
  obtain ⟨hx, hb, hr, hml, hown, htb, hX, hbl, hlocks, hgv⟩ := C0
  have hts : ∀ w ∈ wsL_law, w.before #[Value.ref b] s = true := fun w hw => htb w (wsL_law_in w hw)
  have hbA : ¬ sFrom b0 b := fun q => by simp only [sFrom] at q; omega
  have hq : ∀ a : Nat, a < s.heap.size → H[a]? = s.heap[a]? := fun a ha => hS.2.1 a ha (fun q => by simp only [sFrom] at q; omega)
  have hIc : wl_I (ga b0) 137 := ga_I _ _
  have hIm : wl_I (ga (b0 + 137)) 39 := ga_I _ _
  have e0 : (0 : Int32).toNatClampNeg = 0 := by decide
  have i1 : vp_in (nI (4 * k) + 1) L := by rw [nI_1]; exact vp_in_nI (by omega) (by omega)
  have i2 : vp_in (nI (4 * k) + 2) L := by rw [show nI (4 * k) + 2 = nI (4 * k + 2) from nI_add _ 2]; exact vp_in_nI (by omega) (by omega)
  have i3 : vp_in (nI (4 * k) + 3) L := by rw [show nI (4 * k) + 3 = nI (4 * k + 3) from nI_add _ 3]; exact vp_in_nI (by omega) (by omega)
  obtain ⟨x1, hx1⟩ : ∃ x, x = xs (nI (4 * k) + 1).toNatClampNeg := ⟨_, rfl⟩
  obtain ⟨x2, hx2⟩ : ∃ x, x = xs (nI (4 * k) + 2).toNatClampNeg := ⟨_, rfl⟩
  obtain ⟨x3, hx3⟩ : ∃ x, x = xs (nI (4 * k) + 3).toNatClampNeg := ⟨_, rfl⟩
  have hlt : cCount x1 < 4 := by unfold cCount; (repeat' split) <;> omega
  refine lv_aload_n hx hb dL_law_996 rfl (lv_at hl 1 rfl) ?_
  refine lv_aload_n hx hb dL_law_997 rfl (lv_at hl 0 rfl) ?_
  refine lv_iload hx hb dL_law_998 (lv_at hl 4 rfl) ?_
  refine lv_iconst (v := 1) hx hb dL_law_1000 (by decide) ?_
  refine lv_iadd hx hb dL_law_1001 ?_
  refine va_sld hx hb hX hbl hbA hS i1 dL_law_1002 ?_
  rw [← hx1]
  refine lv_aload_n hx hb dL_law_1003 rfl (lv_at hl 3 rfl) ?_
  refine o_call (vx_runSW (As := [.ref (ga b0 0), .int x1, .ref (b0 + 176)]) (rest := []) ⟨hx, hb, hml, hown, hts⟩ (mL_count l hst (D, ga b0, kl) hIc α β γ nS nO nH hT.1 (b0 + 176) f nao x1) (vx_cwSW 3 hts gL_law_L_count rfl rfl rfl (by decide +kernel) ⟨(Nat.le_of_ble_eq_true rfl), (Nat.le_of_ble_eq_true rfl)⟩) ⟨lL_blind, lL_pre hPc hPo (hE9.K _) hE9.N hE9.E hE9.C hq⟩ rfl rfl hl.1 rfl (lv_room (Nat.le_of_ble_eq_true rfl)) dL_law_1004 ⟨(show 177 + 100 * k + 1 ≤ 846345 by omega), (show 3360 + 1100 * k + 6 ≤ 6557069 by omega)⟩) hS (fun q _ h => sub_L q h) sub_L (fun H1 locs1 hPH hz1 hk1 hS1 => ?_)
  obtain ⟨hPc1, hPo1⟩ := hPH
  have hPm1 := kp_m hPm hk1
  change W _ _ _ _ _ _ _ _ _ _ _ _ _ _ _ (F0 m 1007 ls [.int (nI (cCount x1))])
  refine lv_istore (lv' := [(5, .int (nI (cCount x1))), (0, .ref b), (1, .ref (ga b0 0)), (2, .ref (ga (b0 + 137) 0)), (3, .ref (b0 + 176)), (4, .int (nI (4 * k)))]) hx hb dL_law_1007 hl (by decide) rfl (fun ls hl => ?_)
  refine lv_aload_n hx hb dL_law_1009 rfl (lv_at hl 3 rfl) ?_
  refine lv_aload_n hx hb dL_law_1010 rfl (lv_at hl 1 rfl) ?_
  refine lv_iload hx hb dL_law_1011 (lv_at hl 5 rfl) ?_
  refine lv_iconst (v := 1) hx hb dL_law_1013 (by decide) ?_
  refine lv_iadd hx hb dL_law_1014 ?_
  refine va_sld hx hb hX hbl hbA hS1 i1 dL_law_1015 ?_
  rw [← hx1]
  have hM := m_X6_count l (D, ga (b0 + 137), kl) hIm τ σ δ H1.size nS nO nH hT.q x1
  refine o_call (va_runV (As := [.int x1]) (rest := []) (b := ga (b0 + 137) 0) ⟨hx, hb, hml, hown, hts⟩ hM (cwV 1 hts gL_law_X6_count rfl rfl rfl (by decide +kernel) ⟨(Nat.le_of_ble_eq_true rfl), (Nat.le_of_ble_eq_true rfl)⟩) ⟨oN_blind, va_recv (hE9.K (ga (b0 + 137))) hPm1 (ci := 8) (q0 := 0) rfl (mw_M (D, ga (b0 + 137), kl) _), oN_pre hPm1 (hE9.K _) hE9.N (Nat.le_refl _)⟩ rfl rfl hl.1 rfl (lv_room (Nat.le_of_ble_eq_true rfl)) dL_law_1016 ⟨(show 177 + 100 * k + 1 + 1 ≤ 846345 by omega), (show 3360 + 1100 * k + 6 + 8 ≤ 6557069 by omega)⟩) hS1 (fun q _ h => (sub_N (sz := H1.size) (by omega)) q h) (sub_N (sz := H1.size) (by omega)) (fun H2 locs2 hPm2 hz2 hk2 hS2 => ?_)
  have hPc2 := kp_c (sz := H1.size) (by omega) hPc1 hk2
  have hPo2 := kp_o (sz := H1.size) (by omega) hPo1 hk2
  change W _ _ _ _ _ _ _ _ _ _ _ _ _ _ _ (F0 m 1019 ls [.int (if cCount x1 = 0 then mCnt τ δ nS nO (oN x1) else 0)])
  refine lv_istore (lv' := [(6, .int (if cCount x1 = 0 then mCnt τ δ nS nO (oN x1) else 0)), (5, .int (nI (cCount x1))), (0, .ref b), (1, .ref (ga b0 0)), (2, .ref (ga (b0 + 137) 0)), (3, .ref (b0 + 176)), (4, .int (nI (4 * k)))]) hx hb dL_law_1019 hl (by decide) rfl (fun ls hl => ?_)
  refine lv_aload_n hx hb dL_law_1021 rfl (lv_at hl 4 rfl) ?_
  refine o_cVi (q0 := 0) (ci := 8) [] [] ⟨hx, hb, hml, hown, hts⟩ (m_X6_thrown l (D, ga (b0 + 137), kl) _ _ _) (cwV 0 hts gL_law_X6_thrown rfl rfl rfl (by decide +kernel) ⟨(Nat.le_of_ble_eq_true rfl), (Nat.le_of_ble_eq_true rfl)⟩) (hE9.K _) hE9.N hPm2 rfl rfl (mw_M (D, ga (b0 + 137), kl) _) rfl hl.1 rfl (Nat.le_of_ble_eq_true rfl) dL_law_1022 ⟨(show 177 + 100 * k + 1 + 1 ≤ 846345 by omega), (show 3360 + 1100 * k + 6 + 8 ≤ 6557069 by omega)⟩ ?_
  rw [mT_41]
  refine lv_iload hx hb dL_law_1025 (lv_at hl 1 rfl) ?_
  refine lv_icmp_eq (tgt := 1032) hx hb dL_law_1027 (by decide) (fun c7 => ?_) (fun c7 => absurd rfl c7)
  refine lv_iload hx hb dL_law_1032 (lv_at hl 1 rfl) ?_
  refine lv_if_ne (tgt := 1049) hx hb dL_law_1034 (by decide) (fun c8 => ?_) (fun c8 => ?_)
  · have hc : ¬ cCount x1 = 0 := fun h => c8 (by rw [h]; rfl)
    refine lv_goto (tgt := 1324) hx hb dL_law_1049 (by decide) ?_
    rw [if_neg hc] at hPo2
    exact o_widen (k := 177 + 100 * (k + 1)) (n := 3360 + 1100 * (k + 1)) (by omega) (by omega) (nx _ _ _ _ _ _ _ _ _ _ _ _ (rT_mT hT _) (by omega) hPc2 hPm2 hPo2 hS2 (by omega) ls (lv_sub hl [2, 3, 4, 5, 6] rfl))
  · have hc : cCount x1 = 0 := (nI_eq (b := 0) (by omega) (by decide)).mp c8
    refine lv_aload_n hx hb dL_law_1037 rfl (lv_at hl 5 rfl) ?_
    refine lv_iconst (v := 0) hx hb dL_law_1038 (by decide) ?_
    refine va_lald hx hb (hE9.K (ga b0)) hPo2 0 5 rfl rfl (vp_in_nI (n := 0) (by decide) (by decide)) dL_law_1039 ?_
    refine lv_iload hx hb dL_law_1040 (lv_at hl 0 rfl) ?_
    refine lv_i2l hx hb dL_law_1042 rfl ?_
    rw [if_pos hc] at hPo2
    have hR := hT.count hc
    refine o_lcmp_eq hx hb dL_law_1043 (by rw [if_pos hc, if_pos hc, e0, pk_uLs, hR]) ?_
    refine lv_if_eq (tgt := 1049) hx hb dL_law_1044 (by decide) (fun c9 => ?_) (fun c9 => absurd rfl c9)
    refine lv_goto (tgt := 1324) hx hb dL_law_1049 (by decide) ?_
    exact o_widen (k := 177 + 100 * (k + 1)) (n := 3360 + 1100 * (k + 1)) (by omega) (by omega) (nx _ _ _ _ _ _ _ _ _ _ _ _ (rT_mT hT _) (by have := hH; omega) hPc2 hPm2 hPo2 hS2 (by omega) ls (lv_sub hl [2, 3, 4, 5, 6] rfl))
set_option maxHeartbeats 16000000 in
set_option maxRecDepth 100000 in
theorem law_c1052 {p : Program} {l : Launch} {e : Env} {s : State} {m : MethodId} {below : List Frame} {meth : Method} {c : Code} (hst : l.stackTraces = false) {D : va_G} {kl : Nat → ClassId} {a1 v1 a2 v2 a3 v3 a4 v4 a5 v5 t1 t2 b L b0 : Nat} {xs : Nat → Int32} (hL : L ≤ 2048) (C0 : lw_At p s m meth c b L xs) (hE9 : lwE D kl s a1 v1 a2 v2 a3 v3 a4 v4 a5 v5 t1 t2) (hb0 : b0 = s.heap.size) {k : Nat} (hk4 : 4 * k + 4 ≤ L)
    (nx : lNx p l e s m below meth c D kl b b0 k) {α β γ τ σ δ : oT} {nS nO nH : Nat} {f : Nat → Int64} {H : Heap} {locs : List Loc} (hT : rT α β γ τ δ nS nO nH) (hH : nH ≤ 100 * k) (hPc : va_P D vwCl (cw (D, ga b0, kl) (z3 α β γ)) H) (hPm : va_P D vwCl (mw (D, ga (b0 + 137), kl) (z3 τ σ δ)) H) (hPo : va_P D vwCl (lw1 (D, ga b0, kl) (b0 + 176) f) H) (hS : va_S (sFrom b0) s.heap H locs) (hz : b0 + 177 ≤ H.size) {ls : Array Slot} (hl : lv_has ls 9 [(0, .ref b), (1, .ref (ga b0 0)), (2, .ref (ga (b0 + 137) 0)), (3, .ref (b0 + 176)), (4, .int (nI (4 * k)))]) : W p l e room_1 s m #[Value.ref b] below meth c H locs (177 + 100 * k) (3360 + 1100 * k) (lw_Z below #[Value.ref b] s) (F0 m 1052 ls []) := by
  obtain ⟨hx, hb, hr, hml, hown, htb, hX, hbl, hlocks, hgv⟩ := C0
  have hts : ∀ w ∈ wsL_law, w.before #[Value.ref b] s = true := fun w hw => htb w (wsL_law_in w hw)
  have hbA : ¬ sFrom b0 b := fun q => by simp only [sFrom] at q; omega
  have hq : ∀ a : Nat, a < s.heap.size → H[a]? = s.heap[a]? := fun a ha => hS.2.1 a ha (fun q => by simp only [sFrom] at q; omega)
  have hIc : wl_I (ga b0) 137 := ga_I _ _
  have hIm : wl_I (ga (b0 + 137)) 39 := ga_I _ _
  have e0 : (0 : Int32).toNatClampNeg = 0 := by decide
  have i1 : vp_in (nI (4 * k) + 1) L := by rw [nI_1]; exact vp_in_nI (by omega) (by omega)
  have i2 : vp_in (nI (4 * k) + 2) L := by rw [show nI (4 * k) + 2 = nI (4 * k + 2) from nI_add _ 2]; exact vp_in_nI (by omega) (by omega)
  have i3 : vp_in (nI (4 * k) + 3) L := by rw [show nI (4 * k) + 3 = nI (4 * k + 3) from nI_add _ 3]; exact vp_in_nI (by omega) (by omega)
  obtain ⟨x1, hx1⟩ : ∃ x, x = xs (nI (4 * k) + 1).toNatClampNeg := ⟨_, rfl⟩
  obtain ⟨x2, hx2⟩ : ∃ x, x = xs (nI (4 * k) + 2).toNatClampNeg := ⟨_, rfl⟩
  obtain ⟨x3, hx3⟩ : ∃ x, x = xs (nI (4 * k) + 3).toNatClampNeg := ⟨_, rfl⟩
  have hlt : cFore nO x1 x2 < 4 := by unfold cFore; (repeat' split) <;> omega
  refine lv_aload_n hx hb dL_law_1052 rfl (lv_at hl 1 rfl) ?_
  refine lv_aload_n hx hb dL_law_1053 rfl (lv_at hl 0 rfl) ?_
  refine lv_iload hx hb dL_law_1054 (lv_at hl 4 rfl) ?_
  refine lv_iconst (v := 1) hx hb dL_law_1056 (by decide) ?_
  refine lv_iadd hx hb dL_law_1057 ?_
  refine va_sld hx hb hX hbl hbA hS i1 dL_law_1058 ?_
  rw [← hx1]
  refine lv_aload_n hx hb dL_law_1059 rfl (lv_at hl 0 rfl) ?_
  refine lv_iload hx hb dL_law_1060 (lv_at hl 4 rfl) ?_
  refine lv_iconst (v := 2) hx hb dL_law_1062 (by decide) ?_
  refine lv_iadd hx hb dL_law_1063 ?_
  refine va_sld hx hb hX hbl hbA hS i2 dL_law_1064 ?_
  rw [← hx2]
  refine lv_aload_n hx hb dL_law_1065 rfl (lv_at hl 3 rfl) ?_
  refine o_call (vx_runSW (As := [.ref (ga b0 0), .int x1, .int x2, .ref (b0 + 176)]) (rest := []) ⟨hx, hb, hml, hown, hts⟩ (mL_foresee l hst (D, ga b0, kl) hIc α β γ nS nO nH hT.1 hT.2.1 (by omega) (b0 + 176) f nao x1 x2) (vx_cwSW 4 hts gL_law_L_foresee rfl rfl rfl (by decide +kernel) ⟨(Nat.le_of_ble_eq_true rfl), (Nat.le_of_ble_eq_true rfl)⟩) ⟨lL_blind, lL_pre hPc hPo (hE9.K _) hE9.N hE9.E hE9.C hq⟩ rfl rfl hl.1 rfl (lv_room (Nat.le_of_ble_eq_true rfl)) dL_law_1066 ⟨(show 177 + 100 * k + 1 ≤ 846345 by omega), (show 3360 + 1100 * k + 6 ≤ 6557069 by omega)⟩) hS (fun q _ h => sub_L q h) sub_L (fun H1 locs1 hPH hz1 hk1 hS1 => ?_)
  obtain ⟨hPc1, hPo1⟩ := hPH
  have hPm1 := kp_m hPm hk1
  change W _ _ _ _ _ _ _ _ _ _ _ _ _ _ _ (F0 m 1069 ls [.int (nI (cFore nO x1 x2))])
  refine lv_istore (lv' := [(5, .int (nI (cFore nO x1 x2))), (0, .ref b), (1, .ref (ga b0 0)), (2, .ref (ga (b0 + 137) 0)), (3, .ref (b0 + 176)), (4, .int (nI (4 * k)))]) hx hb dL_law_1069 hl (by decide) rfl (fun ls hl => ?_)
  refine lv_aload_n hx hb dL_law_1071 rfl (lv_at hl 3 rfl) ?_
  refine lv_aload_n hx hb dL_law_1072 rfl (lv_at hl 1 rfl) ?_
  refine lv_iload hx hb dL_law_1073 (lv_at hl 5 rfl) ?_
  refine lv_iconst (v := 1) hx hb dL_law_1075 (by decide) ?_
  refine lv_iadd hx hb dL_law_1076 ?_
  refine va_sld hx hb hX hbl hbA hS1 i1 dL_law_1077 ?_
  rw [← hx1]
  refine lv_aload_n hx hb dL_law_1078 rfl (lv_at hl 1 rfl) ?_
  refine lv_iload hx hb dL_law_1079 (lv_at hl 5 rfl) ?_
  refine lv_iconst (v := 2) hx hb dL_law_1081 (by decide) ?_
  refine lv_iadd hx hb dL_law_1082 ?_
  refine va_sld hx hb hX hbl hbA hS1 i2 dL_law_1083 ?_
  rw [← hx2]
  have hM := m_X6_foresee l (D, ga (b0 + 137), kl) hIm τ σ δ nS nO nH hT.q (by omega) x1 x2
  refine o_call (va_runV (As := [.int x1, .int x2]) (rest := []) (b := ga (b0 + 137) 0) ⟨hx, hb, hml, hown, hts⟩ hM (cwV 2 hts gL_law_X6_foresee rfl rfl rfl (by decide +kernel) ⟨(Nat.le_of_ble_eq_true rfl), (Nat.le_of_ble_eq_true rfl)⟩) ⟨o_blind, va_recv (hE9.K (ga (b0 + 137))) hPm1 (ci := 8) (q0 := 0) rfl (mw_M (D, ga (b0 + 137), kl) _), o_pre hPm1 (hE9.K _) hE9.N⟩ rfl rfl hl.1 rfl (lv_room (Nat.le_of_ble_eq_true rfl)) dL_law_1084 ⟨(show 177 + 100 * k + 1 + 0 ≤ 846345 by omega), (show 3360 + 1100 * k + 6 + 0 ≤ 6557069 by omega)⟩) hS1 (fun q _ h => sub_M q h) sub_M (fun H2 locs2 hPm2 hz2 hk2 hS2 => ?_)
  have hPc2 := kp_c (Nat.le_refl (b0 + 177)) hPc1 (kp_AN hk2)
  have hPo2 := kp_o (Nat.le_refl (b0 + 177)) hPo1 (kp_AN hk2)
  change W _ _ _ _ _ _ _ _ _ _ _ _ _ _ _ (F0 m 1087 ls [.int (if cFore nO x1 x2 = 0 then qPn (qBc τ σ 15) (δ 42 0) nS nO nH (oN x2) 10 0 (oN x1) - τ 10 0 (oN x1) else 0)])
  refine lv_istore (lv' := [(6, .int (if cFore nO x1 x2 = 0 then qPn (qBc τ σ 15) (δ 42 0) nS nO nH (oN x2) 10 0 (oN x1) - τ 10 0 (oN x1) else 0)), (5, .int (nI (cFore nO x1 x2))), (0, .ref b), (1, .ref (ga b0 0)), (2, .ref (ga (b0 + 137) 0)), (3, .ref (b0 + 176)), (4, .int (nI (4 * k)))]) hx hb dL_law_1087 hl (by decide) rfl (fun ls hl => ?_)
  refine lv_aload_n hx hb dL_law_1089 rfl (lv_at hl 4 rfl) ?_
  refine o_cVi (q0 := 0) (ci := 8) [] [] ⟨hx, hb, hml, hown, hts⟩ (m_X6_thrown l (D, ga (b0 + 137), kl) _ _ _) (cwV 0 hts gL_law_X6_thrown rfl rfl rfl (by decide +kernel) ⟨(Nat.le_of_ble_eq_true rfl), (Nat.le_of_ble_eq_true rfl)⟩) (hE9.K _) hE9.N hPm2 rfl rfl (mw_M (D, ga (b0 + 137), kl) _) rfl hl.1 rfl (Nat.le_of_ble_eq_true rfl) dL_law_1090 ⟨(show 177 + 100 * k + 1 + 0 ≤ 846345 by omega), (show 3360 + 1100 * k + 6 + 0 ≤ 6557069 by omega)⟩ ?_
  rw [mT_41]
  refine lv_iload hx hb dL_law_1093 (lv_at hl 1 rfl) ?_
  refine lv_icmp_eq (tgt := 1100) hx hb dL_law_1095 (by decide) (fun c7 => ?_) (fun c7 => absurd rfl c7)
  refine lv_iload hx hb dL_law_1100 (lv_at hl 1 rfl) ?_
  refine lv_if_ne (tgt := 1117) hx hb dL_law_1102 (by decide) (fun c8 => ?_) (fun c8 => ?_)
  · have hc : ¬ cFore nO x1 x2 = 0 := fun h => c8 (by rw [h]; rfl)
    refine lv_goto (tgt := 1324) hx hb dL_law_1117 (by decide) ?_
    rw [if_neg hc] at hPc2
    rw [if_neg hc] at hPo2
    rw [if_neg hc] at hPm2
    try rw [if_neg hc] at hPm2
    try rw [if_neg hc] at hPm2
    exact o_widen (k := 177 + 100 * (k + 1)) (n := 3360 + 1100 * (k + 1)) (by omega) (by omega) (nx _ _ _ _ _ _ _ _ _ _ _ _ (rT_mT hT _) (by omega) hPc2 hPm2 hPo2 hS2 (by omega) ls (lv_sub hl [2, 3, 4, 5, 6] rfl))
  · have hc : cFore nO x1 x2 = 0 := (nI_eq (b := 0) (by omega) (by decide)).mp c8
    refine lv_aload_n hx hb dL_law_1105 rfl (lv_at hl 5 rfl) ?_
    refine lv_iconst (v := 0) hx hb dL_law_1106 (by decide) ?_
    refine va_lald hx hb (hE9.K (ga b0)) hPo2 0 5 rfl rfl (vp_in_nI (n := 0) (by decide) (by decide)) dL_law_1107 ?_
    refine lv_iload hx hb dL_law_1108 (lv_at hl 0 rfl) ?_
    refine lv_i2l hx hb dL_law_1110 rfl ?_
    rw [if_pos hc] at hPc2
    rw [if_pos hc] at hPo2
    rw [if_pos hc] at hPm2
    try rw [if_pos hc] at hPm2
    try rw [if_pos hc] at hPm2
    try rw [hc] at hPm2
    have hR := hT.fore (σ := σ) (by omega) hc
    refine o_lcmp_eq hx hb dL_law_1111 (by rw [if_pos hc, if_pos hc, e0, pk_uLs, hR.2]) ?_
    refine lv_if_eq (tgt := 1117) hx hb dL_law_1112 (by decide) (fun c9 => ?_) (fun c9 => absurd rfl c9)
    refine lv_goto (tgt := 1324) hx hb dL_law_1117 (by decide) ?_
    exact o_widen (k := 177 + 100 * (k + 1)) (n := 3360 + 1100 * (k + 1)) (by omega) (by omega) (nx _ _ _ _ _ _ _ _ _ _ _ _ hR.1 (by have := hH; omega) hPc2 hPm2 hPo2 hS2 (by omega) ls (lv_sub hl [2, 3, 4, 5, 6] rfl))
set_option maxHeartbeats 16000000 in
set_option maxRecDepth 100000 in
theorem law_c1120 {p : Program} {l : Launch} {e : Env} {s : State} {m : MethodId} {below : List Frame} {meth : Method} {c : Code} (hst : l.stackTraces = false) {D : va_G} {kl : Nat → ClassId} {a1 v1 a2 v2 a3 v3 a4 v4 a5 v5 t1 t2 b L b0 : Nat} {xs : Nat → Int32} (hL : L ≤ 2048) (C0 : lw_At p s m meth c b L xs) (hE9 : lwE D kl s a1 v1 a2 v2 a3 v3 a4 v4 a5 v5 t1 t2) (hb0 : b0 = s.heap.size) {k : Nat} (hk4 : 4 * k + 4 ≤ L)
    (nx : lNx p l e s m below meth c D kl b b0 k) {α β γ τ σ δ : oT} {nS nO nH : Nat} {f : Nat → Int64} {H : Heap} {locs : List Loc} (hT : rT α β γ τ δ nS nO nH) (hH : nH ≤ 100 * k) (hPc : va_P D vwCl (cw (D, ga b0, kl) (z3 α β γ)) H) (hPm : va_P D vwCl (mw (D, ga (b0 + 137), kl) (z3 τ σ δ)) H) (hPo : va_P D vwCl (lw1 (D, ga b0, kl) (b0 + 176) f) H) (hS : va_S (sFrom b0) s.heap H locs) (hz : b0 + 177 ≤ H.size) {ls : Array Slot} (hl : lv_has ls 9 [(0, .ref b), (1, .ref (ga b0 0)), (2, .ref (ga (b0 + 137) 0)), (3, .ref (b0 + 176)), (4, .int (nI (4 * k)))]) : W p l e room_1 s m #[Value.ref b] below meth c H locs (177 + 100 * k) (3360 + 1100 * k) (lw_Z below #[Value.ref b] s) (F0 m 1120 ls []) := by
  obtain ⟨hx, hb, hr, hml, hown, htb, hX, hbl, hlocks, hgv⟩ := C0
  have hts : ∀ w ∈ wsL_law, w.before #[Value.ref b] s = true := fun w hw => htb w (wsL_law_in w hw)
  have hbA : ¬ sFrom b0 b := fun q => by simp only [sFrom] at q; omega
  have hq : ∀ a : Nat, a < s.heap.size → H[a]? = s.heap[a]? := fun a ha => hS.2.1 a ha (fun q => by simp only [sFrom] at q; omega)
  have hIc : wl_I (ga b0) 137 := ga_I _ _
  have hIm : wl_I (ga (b0 + 137)) 39 := ga_I _ _
  have e0 : (0 : Int32).toNatClampNeg = 0 := by decide
  have i1 : vp_in (nI (4 * k) + 1) L := by rw [nI_1]; exact vp_in_nI (by omega) (by omega)
  have i2 : vp_in (nI (4 * k) + 2) L := by rw [show nI (4 * k) + 2 = nI (4 * k + 2) from nI_add _ 2]; exact vp_in_nI (by omega) (by omega)
  have i3 : vp_in (nI (4 * k) + 3) L := by rw [show nI (4 * k) + 3 = nI (4 * k + 3) from nI_add _ 3]; exact vp_in_nI (by omega) (by omega)
  obtain ⟨x1, hx1⟩ : ∃ x, x = xs (nI (4 * k) + 1).toNatClampNeg := ⟨_, rfl⟩
  obtain ⟨x2, hx2⟩ : ∃ x, x = xs (nI (4 * k) + 2).toNatClampNeg := ⟨_, rfl⟩
  obtain ⟨x3, hx3⟩ : ∃ x, x = xs (nI (4 * k) + 3).toNatClampNeg := ⟨_, rfl⟩
  have hlt : cAdv nS nO x1 x2 x3 < 4 := by unfold cAdv; (repeat' split) <;> omega
  refine lv_aload_n hx hb dL_law_1120 rfl (lv_at hl 1 rfl) ?_
  refine lv_aload_n hx hb dL_law_1121 rfl (lv_at hl 0 rfl) ?_
  refine lv_iload hx hb dL_law_1122 (lv_at hl 4 rfl) ?_
  refine lv_iconst (v := 1) hx hb dL_law_1124 (by decide) ?_
  refine lv_iadd hx hb dL_law_1125 ?_
  refine va_sld hx hb hX hbl hbA hS i1 dL_law_1126 ?_
  rw [← hx1]
  refine lv_aload_n hx hb dL_law_1127 rfl (lv_at hl 0 rfl) ?_
  refine lv_iload hx hb dL_law_1128 (lv_at hl 4 rfl) ?_
  refine lv_iconst (v := 2) hx hb dL_law_1130 (by decide) ?_
  refine lv_iadd hx hb dL_law_1131 ?_
  refine va_sld hx hb hX hbl hbA hS i2 dL_law_1132 ?_
  rw [← hx2]
  refine lv_aload_n hx hb dL_law_1133 rfl (lv_at hl 0 rfl) ?_
  refine lv_iload hx hb dL_law_1134 (lv_at hl 4 rfl) ?_
  refine lv_iconst (v := 3) hx hb dL_law_1136 (by decide) ?_
  refine lv_iadd hx hb dL_law_1137 ?_
  refine va_sld hx hb hX hbl hbA hS i3 dL_law_1138 ?_
  rw [← hx3]
  refine lv_aload_n hx hb dL_law_1139 rfl (lv_at hl 3 rfl) ?_
  refine o_call (vx_runSW (As := [.ref (ga b0 0), .int x1, .int x2, .int x3, .ref (b0 + 176)]) (rest := []) ⟨hx, hb, hml, hown, hts⟩ (mL_advise l hst (D, ga b0, kl) hIc α β γ nS nO nH hT.1 hT.2.1 (by omega) (b0 + 176) f nao x1 x2 x3) (vx_cwSW 5 hts gL_law_L_advise rfl rfl rfl (by decide +kernel) ⟨(Nat.le_of_ble_eq_true rfl), (Nat.le_of_ble_eq_true rfl)⟩) ⟨lL_blind, lL_pre hPc hPo (hE9.K _) hE9.N hE9.E hE9.C hq⟩ rfl rfl hl.1 rfl (lv_room (Nat.le_of_ble_eq_true rfl)) dL_law_1140 ⟨(show 177 + 100 * k + 1 ≤ 846345 by omega), (show 3360 + 1100 * k + 6 ≤ 6557069 by omega)⟩) hS (fun q _ h => sub_L q h) sub_L (fun H1 locs1 hPH hz1 hk1 hS1 => ?_)
  obtain ⟨hPc1, hPo1⟩ := hPH
  have hPm1 := kp_m hPm hk1
  change W _ _ _ _ _ _ _ _ _ _ _ _ _ _ _ (F0 m 1143 ls [.int (nI (cAdv nS nO x1 x2 x3))])
  refine lv_istore (lv' := [(5, .int (nI (cAdv nS nO x1 x2 x3))), (0, .ref b), (1, .ref (ga b0 0)), (2, .ref (ga (b0 + 137) 0)), (3, .ref (b0 + 176)), (4, .int (nI (4 * k)))]) hx hb dL_law_1143 hl (by decide) rfl (fun ls hl => ?_)
  refine lv_aload_n hx hb dL_law_1145 rfl (lv_at hl 3 rfl) ?_
  refine lv_aload_n hx hb dL_law_1146 rfl (lv_at hl 1 rfl) ?_
  refine lv_iload hx hb dL_law_1147 (lv_at hl 5 rfl) ?_
  refine lv_iconst (v := 1) hx hb dL_law_1149 (by decide) ?_
  refine lv_iadd hx hb dL_law_1150 ?_
  refine va_sld hx hb hX hbl hbA hS1 i1 dL_law_1151 ?_
  rw [← hx1]
  refine lv_aload_n hx hb dL_law_1152 rfl (lv_at hl 1 rfl) ?_
  refine lv_iload hx hb dL_law_1153 (lv_at hl 5 rfl) ?_
  refine lv_iconst (v := 2) hx hb dL_law_1155 (by decide) ?_
  refine lv_iadd hx hb dL_law_1156 ?_
  refine va_sld hx hb hX hbl hbA hS1 i2 dL_law_1157 ?_
  rw [← hx2]
  refine lv_aload_n hx hb dL_law_1158 rfl (lv_at hl 1 rfl) ?_
  refine lv_iload hx hb dL_law_1159 (lv_at hl 5 rfl) ?_
  refine lv_iconst (v := 3) hx hb dL_law_1161 (by decide) ?_
  refine lv_iadd hx hb dL_law_1162 ?_
  refine va_sld hx hb hX hbl hbA hS1 i3 dL_law_1163 ?_
  rw [← hx3]
  have hM := m_X6_advise l (D, ga (b0 + 137), kl) hIm τ σ δ nS nO nH hT.q (by omega) x1 x2 x3
  refine o_call (va_runV (As := [.int x1, .int x2, .int x3]) (rest := []) (b := ga (b0 + 137) 0) ⟨hx, hb, hml, hown, hts⟩ hM (cwV 3 hts gL_law_X6_advise rfl rfl rfl (by decide +kernel) ⟨(Nat.le_of_ble_eq_true rfl), (Nat.le_of_ble_eq_true rfl)⟩) ⟨o_blind, va_recv (hE9.K (ga (b0 + 137))) hPm1 (ci := 8) (q0 := 0) rfl (mw_M (D, ga (b0 + 137), kl) _), o_pre hPm1 (hE9.K _) hE9.N⟩ rfl rfl hl.1 rfl (lv_room (Nat.le_of_ble_eq_true rfl)) dL_law_1164 ⟨(show 177 + 100 * k + 1 + 0 ≤ 846345 by omega), (show 3360 + 1100 * k + 6 + 0 ≤ 6557069 by omega)⟩) hS1 (fun q _ h => sub_M q h) sub_M (fun H2 locs2 hPm2 hz2 hk2 hS2 => ?_)
  have hPc2 := kp_c (Nat.le_refl (b0 + 177)) hPc1 (kp_AN hk2)
  have hPo2 := kp_o (Nat.le_refl (b0 + 177)) hPo1 (kp_AN hk2)
  change W _ _ _ _ _ _ _ _ _ _ _ _ _ _ _ (F0 m 1167 ls [.int (if cAdv nS nO x1 x2 x3 = 0 then (qAv τ σ (δ 42 0) nS nO nH (oN x1) x2 (oN x3) (qNp τ (oN x2))).2.1 else 0)])
  refine lv_istore (lv' := [(6, .int (if cAdv nS nO x1 x2 x3 = 0 then (qAv τ σ (δ 42 0) nS nO nH (oN x1) x2 (oN x3) (qNp τ (oN x2))).2.1 else 0)), (5, .int (nI (cAdv nS nO x1 x2 x3))), (0, .ref b), (1, .ref (ga b0 0)), (2, .ref (ga (b0 + 137) 0)), (3, .ref (b0 + 176)), (4, .int (nI (4 * k)))]) hx hb dL_law_1167 hl (by decide) rfl (fun ls hl => ?_)
  refine lv_aload_n hx hb dL_law_1169 rfl (lv_at hl 4 rfl) ?_
  refine o_cVi (q0 := 0) (ci := 8) [] [] ⟨hx, hb, hml, hown, hts⟩ (m_X6_thrown l (D, ga (b0 + 137), kl) _ _ _) (cwV 0 hts gL_law_X6_thrown rfl rfl rfl (by decide +kernel) ⟨(Nat.le_of_ble_eq_true rfl), (Nat.le_of_ble_eq_true rfl)⟩) (hE9.K _) hE9.N hPm2 rfl rfl (mw_M (D, ga (b0 + 137), kl) _) rfl hl.1 rfl (Nat.le_of_ble_eq_true rfl) dL_law_1170 ⟨(show 177 + 100 * k + 1 + 0 ≤ 846345 by omega), (show 3360 + 1100 * k + 6 + 0 ≤ 6557069 by omega)⟩ ?_
  rw [mT_41]
  refine lv_iload hx hb dL_law_1173 (lv_at hl 1 rfl) ?_
  refine lv_icmp_eq (tgt := 1180) hx hb dL_law_1175 (by decide) (fun c7 => ?_) (fun c7 => absurd rfl c7)
  refine lv_iload hx hb dL_law_1180 (lv_at hl 1 rfl) ?_
  refine lv_if_ne (tgt := 1197) hx hb dL_law_1182 (by decide) (fun c8 => ?_) (fun c8 => ?_)
  · have hc : ¬ cAdv nS nO x1 x2 x3 = 0 := fun h => c8 (by rw [h]; rfl)
    refine lv_goto (tgt := 1324) hx hb dL_law_1197 (by decide) ?_
    rw [if_neg hc] at hPc2
    rw [if_neg hc] at hPo2
    rw [if_neg hc] at hPm2
    try rw [if_neg hc] at hPm2
    try rw [if_neg hc] at hPm2
    exact o_widen (k := 177 + 100 * (k + 1)) (n := 3360 + 1100 * (k + 1)) (by omega) (by omega) (nx _ _ _ _ _ _ _ _ _ _ _ _ (rT_mT hT _) (by omega) hPc2 hPm2 hPo2 hS2 (by omega) ls (lv_sub hl [2, 3, 4, 5, 6] rfl))
  · have hc : cAdv nS nO x1 x2 x3 = 0 := (nI_eq (b := 0) (by omega) (by decide)).mp c8
    refine lv_aload_n hx hb dL_law_1185 rfl (lv_at hl 5 rfl) ?_
    refine lv_iconst (v := 0) hx hb dL_law_1186 (by decide) ?_
    refine va_lald hx hb (hE9.K (ga b0)) hPo2 0 5 rfl rfl (vp_in_nI (n := 0) (by decide) (by decide)) dL_law_1187 ?_
    refine lv_iload hx hb dL_law_1188 (lv_at hl 0 rfl) ?_
    refine lv_i2l hx hb dL_law_1190 rfl ?_
    rw [if_pos hc] at hPc2
    rw [if_pos hc] at hPo2
    rw [if_pos hc] at hPm2
    try rw [if_pos hc] at hPm2
    try rw [if_pos hc] at hPm2
    try rw [hc] at hPm2
    have hR := hT.adv (σ := σ) (by omega) hc
    refine o_lcmp_eq hx hb dL_law_1191 (by rw [if_pos hc, if_pos hc, e0, pk_uLs, hR.2]) ?_
    refine lv_if_eq (tgt := 1197) hx hb dL_law_1192 (by decide) (fun c9 => ?_) (fun c9 => absurd rfl c9)
    refine lv_goto (tgt := 1324) hx hb dL_law_1197 (by decide) ?_
    exact o_widen (k := 177 + 100 * (k + 1)) (n := 3360 + 1100 * (k + 1)) (by omega) (by omega) (nx _ _ _ _ _ _ _ _ _ _ _ _ hR.1 (by have := hH; omega) hPc2 hPm2 hPo2 hS2 (by omega) ls (lv_sub hl [2, 3, 4, 5, 6] rfl))
set_option maxHeartbeats 16000000 in
set_option maxRecDepth 100000 in
theorem law_c1213 {p : Program} {l : Launch} {e : Env} {s : State} {m : MethodId} {below : List Frame} {meth : Method} {c : Code} (hst : l.stackTraces = false) {D : va_G} {kl : Nat → ClassId} {a1 v1 a2 v2 a3 v3 a4 v4 a5 v5 t1 t2 b L b0 : Nat} {xs : Nat → Int32} (hL : L ≤ 2048) (C0 : lw_At p s m meth c b L xs) (hE9 : lwE D kl s a1 v1 a2 v2 a3 v3 a4 v4 a5 v5 t1 t2) (hb0 : b0 = s.heap.size) {k : Nat} (hk4 : 4 * k + 4 ≤ L)
    (nx : lNx p l e s m below meth c D kl b b0 k) {α β γ τ σ δ : oT} {nS nO nH : Nat} {f : Nat → Int64} {H : Heap} {locs : List Loc} (hT : rT α β γ τ δ nS nO nH) (hH : nH ≤ 100 * k) (hPc : va_P D vwCl (cw (D, ga b0, kl) (z3 α β γ)) H) (hPm : va_P D vwCl (mw (D, ga (b0 + 137), kl) (z3 τ σ δ)) H) (hPo : va_P D vwCl (lw1 (D, ga b0, kl) (b0 + 176) f) H) (hS : va_S (sFrom b0) s.heap H locs) (hz : b0 + 177 ≤ H.size) {ls : Array Slot} (hl : lv_has ls 9 [(0, .ref b), (1, .ref (ga b0 0)), (2, .ref (ga (b0 + 137) 0)), (3, .ref (b0 + 176)), (4, .int (nI (4 * k)))]) : W p l e room_1 s m #[Value.ref b] below meth c H locs (177 + 100 * k) (3360 + 1100 * k) (lw_Z below #[Value.ref b] s) (F0 m 1213 ls []) := by
  obtain ⟨hx, hb, hr, hml, hown, htb, hX, hbl, hlocks, hgv⟩ := C0
  have hts : ∀ w ∈ wsL_law, w.before #[Value.ref b] s = true := fun w hw => htb w (wsL_law_in w hw)
  have hbA : ¬ sFrom b0 b := fun q => by simp only [sFrom] at q; omega
  have hq : ∀ a : Nat, a < s.heap.size → H[a]? = s.heap[a]? := fun a ha => hS.2.1 a ha (fun q => by simp only [sFrom] at q; omega)
  have hIc : wl_I (ga b0) 137 := ga_I _ _
  have hIm : wl_I (ga (b0 + 137)) 39 := ga_I _ _
  have e0 : (0 : Int32).toNatClampNeg = 0 := by decide
  have i1 : vp_in (nI (4 * k) + 1) L := by rw [nI_1]; exact vp_in_nI (by omega) (by omega)
  have i2 : vp_in (nI (4 * k) + 2) L := by rw [show nI (4 * k) + 2 = nI (4 * k + 2) from nI_add _ 2]; exact vp_in_nI (by omega) (by omega)
  have i3 : vp_in (nI (4 * k) + 3) L := by rw [show nI (4 * k) + 3 = nI (4 * k + 3) from nI_add _ 3]; exact vp_in_nI (by omega) (by omega)
  obtain ⟨x1, hx1⟩ : ∃ x, x = xs (nI (4 * k) + 1).toNatClampNeg := ⟨_, rfl⟩
  obtain ⟨x2, hx2⟩ : ∃ x, x = xs (nI (4 * k) + 2).toNatClampNeg := ⟨_, rfl⟩
  obtain ⟨x3, hx3⟩ : ∃ x, x = xs (nI (4 * k) + 3).toNatClampNeg := ⟨_, rfl⟩
  have hlt : cByte (oN (γ 0 0 0)) x1 < 4 := by unfold cByte; (repeat' split) <;> omega
  refine lv_aload_n hx hb dL_law_1213 rfl (lv_at hl 1 rfl) ?_
  refine lv_aload_n hx hb dL_law_1214 rfl (lv_at hl 0 rfl) ?_
  refine lv_iload hx hb dL_law_1215 (lv_at hl 4 rfl) ?_
  refine lv_iconst (v := 1) hx hb dL_law_1217 (by decide) ?_
  refine lv_iadd hx hb dL_law_1218 ?_
  refine va_sld hx hb hX hbl hbA hS i1 dL_law_1219 ?_
  rw [← hx1]
  refine lv_aload_n hx hb dL_law_1220 rfl (lv_at hl 3 rfl) ?_
  refine o_call (vx_runSW (As := [.ref (ga b0 0), .int x1, .ref (b0 + 176)]) (rest := []) ⟨hx, hb, hml, hown, hts⟩ (mL_byteAt l hst (D, ga b0, kl) hIc α β γ nS nO nH hT.1 hT.2.2.1.1 (b0 + 176) f nao x1) (vx_cwSW 3 hts gL_law_L_byteAt rfl rfl rfl (by decide +kernel) ⟨(Nat.le_of_ble_eq_true rfl), (Nat.le_of_ble_eq_true rfl)⟩) ⟨lL_blind, lL_pre hPc hPo (hE9.K _) hE9.N hE9.E hE9.C hq⟩ rfl rfl hl.1 rfl (lv_room (Nat.le_of_ble_eq_true rfl)) dL_law_1221 ⟨(show 177 + 100 * k + 1 ≤ 846345 by omega), (show 3360 + 1100 * k + 6 ≤ 6557069 by omega)⟩) hS (fun q _ h => sub_L q h) sub_L (fun H1 locs1 hPH hz1 hk1 hS1 => ?_)
  obtain ⟨hPc1, hPo1⟩ := hPH
  have hPm1 := kp_m hPm hk1
  change W _ _ _ _ _ _ _ _ _ _ _ _ _ _ _ (F0 m 1224 ls [.int (nI (cByte (oN (γ 0 0 0)) x1))])
  refine lv_istore (lv' := [(5, .int (nI (cByte (oN (γ 0 0 0)) x1))), (0, .ref b), (1, .ref (ga b0 0)), (2, .ref (ga (b0 + 137) 0)), (3, .ref (b0 + 176)), (4, .int (nI (4 * k)))]) hx hb dL_law_1224 hl (by decide) rfl (fun ls hl => ?_)
  refine lv_aload_n hx hb dL_law_1226 rfl (lv_at hl 3 rfl) ?_
  refine lv_aload_n hx hb dL_law_1227 rfl (lv_at hl 1 rfl) ?_
  refine lv_iload hx hb dL_law_1228 (lv_at hl 5 rfl) ?_
  refine lv_iconst (v := 1) hx hb dL_law_1230 (by decide) ?_
  refine lv_iadd hx hb dL_law_1231 ?_
  refine va_sld hx hb hX hbl hbA hS1 i1 dL_law_1232 ?_
  rw [← hx1]
  have hM := m_X6_byteAt l (D, ga (b0 + 137), kl) hIm τ σ δ nS nO nH hT.q (oN (γ 0 0 0)) hT.nP.1 (by have := hT.nP.2; omega) x1
  refine o_call (va_runV (As := [.int x1]) (rest := []) (b := ga (b0 + 137) 0) ⟨hx, hb, hml, hown, hts⟩ hM (cwV 1 hts gL_law_X6_byteAt rfl rfl rfl (by decide +kernel) ⟨(Nat.le_of_ble_eq_true rfl), (Nat.le_of_ble_eq_true rfl)⟩) ⟨o_blind, va_recv (hE9.K (ga (b0 + 137))) hPm1 (ci := 8) (q0 := 0) rfl (mw_M (D, ga (b0 + 137), kl) _), o_pre hPm1 (hE9.K _) hE9.N⟩ rfl rfl hl.1 rfl (lv_room (Nat.le_of_ble_eq_true rfl)) dL_law_1233 ⟨(show 177 + 100 * k + 1 + 0 ≤ 846345 by omega), (show 3360 + 1100 * k + 6 + 0 ≤ 6557069 by omega)⟩) hS1 (fun q _ h => sub_M q h) sub_M (fun H2 locs2 hPm2 hz2 hk2 hS2 => ?_)
  have hPc2 := kp_c (Nat.le_refl (b0 + 177)) hPc1 (kp_AN hk2)
  have hPo2 := kp_o (Nat.le_refl (b0 + 177)) hPo1 (kp_AN hk2)
  change W _ _ _ _ _ _ _ _ _ _ _ _ _ _ _ (F0 m 1236 ls [.int (if cByte (oN (γ 0 0 0)) x1 = 0 then δ 43 0 (oN x1) else 0)])
  refine lv_istore (lv' := [(6, .int (if cByte (oN (γ 0 0 0)) x1 = 0 then δ 43 0 (oN x1) else 0)), (5, .int (nI (cByte (oN (γ 0 0 0)) x1))), (0, .ref b), (1, .ref (ga b0 0)), (2, .ref (ga (b0 + 137) 0)), (3, .ref (b0 + 176)), (4, .int (nI (4 * k)))]) hx hb dL_law_1236 hl (by decide) rfl (fun ls hl => ?_)
  refine lv_aload_n hx hb dL_law_1238 rfl (lv_at hl 4 rfl) ?_
  refine o_cVi (q0 := 0) (ci := 8) [] [] ⟨hx, hb, hml, hown, hts⟩ (m_X6_thrown l (D, ga (b0 + 137), kl) _ _ _) (cwV 0 hts gL_law_X6_thrown rfl rfl rfl (by decide +kernel) ⟨(Nat.le_of_ble_eq_true rfl), (Nat.le_of_ble_eq_true rfl)⟩) (hE9.K _) hE9.N hPm2 rfl rfl (mw_M (D, ga (b0 + 137), kl) _) rfl hl.1 rfl (Nat.le_of_ble_eq_true rfl) dL_law_1239 ⟨(show 177 + 100 * k + 1 + 0 ≤ 846345 by omega), (show 3360 + 1100 * k + 6 + 0 ≤ 6557069 by omega)⟩ ?_
  rw [mT_41]
  refine lv_iload hx hb dL_law_1242 (lv_at hl 1 rfl) ?_
  refine lv_icmp_eq (tgt := 1249) hx hb dL_law_1244 (by decide) (fun c7 => ?_) (fun c7 => absurd rfl c7)
  refine lv_iload hx hb dL_law_1249 (lv_at hl 1 rfl) ?_
  refine lv_if_ne (tgt := 1266) hx hb dL_law_1251 (by decide) (fun c8 => ?_) (fun c8 => ?_)
  · have hc : ¬ cByte (oN (γ 0 0 0)) x1 = 0 := fun h => c8 (by rw [h]; rfl)
    refine lv_goto (tgt := 1324) hx hb dL_law_1266 (by decide) ?_
    rw [if_neg hc] at hPo2
    exact o_widen (k := 177 + 100 * (k + 1)) (n := 3360 + 1100 * (k + 1)) (by omega) (by omega) (nx _ _ _ _ _ _ _ _ _ _ _ _ (rT_mT hT _) (by omega) hPc2 hPm2 hPo2 hS2 (by omega) ls (lv_sub hl [2, 3, 4, 5, 6] rfl))
  · have hc : cByte (oN (γ 0 0 0)) x1 = 0 := (nI_eq (b := 0) (by omega) (by decide)).mp c8
    refine lv_aload_n hx hb dL_law_1254 rfl (lv_at hl 5 rfl) ?_
    refine lv_iconst (v := 0) hx hb dL_law_1255 (by decide) ?_
    refine va_lald hx hb (hE9.K (ga b0)) hPo2 0 5 rfl rfl (vp_in_nI (n := 0) (by decide) (by decide)) dL_law_1256 ?_
    refine lv_iload hx hb dL_law_1257 (lv_at hl 0 rfl) ?_
    refine lv_i2l hx hb dL_law_1259 rfl ?_
    rw [if_pos hc] at hPo2
    have hR := hT.byte hc
    refine o_lcmp_eq hx hb dL_law_1260 (by rw [if_pos hc, if_pos hc, e0, pk_uLs, hR]) ?_
    refine lv_if_eq (tgt := 1266) hx hb dL_law_1261 (by decide) (fun c9 => ?_) (fun c9 => absurd rfl c9)
    refine lv_goto (tgt := 1324) hx hb dL_law_1266 (by decide) ?_
    exact o_widen (k := 177 + 100 * (k + 1)) (n := 3360 + 1100 * (k + 1)) (by omega) (by omega) (nx _ _ _ _ _ _ _ _ _ _ _ _ (rT_mT hT _) (by have := hH; omega) hPc2 hPm2 hPo2 hS2 (by omega) ls (lv_sub hl [2, 3, 4, 5, 6] rfl))
