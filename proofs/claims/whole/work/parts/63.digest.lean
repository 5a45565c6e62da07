set_option maxHeartbeats 4000000 in
set_option maxRecDepth 100000 in
theorem m_X6_digest (l : Launch) (G : oG) (hI : wl_I G.2.1 39) (α β γ : oT) (sz : Nat) (nS : Nat) (nO : Nat) (nH : Nat) (hz : qOK α nS nO nH) (nP : Nat) (hp1 : γ 41 0 1 = nI nP) (hp2 : nP ≤ 1000) : Met l yX6_digest wsX6_digest ({ frames := 6, cells := 96, slots := 1032, locals := 141 } : Room) (va_Pc [.ref (G.2.1 0)] (PN G (mw G (z3 α β γ)) sz)) (oQ (some (.long (mDig α (su γ 41 0 0 0) nS nO nH nP))) (fun H9 => va_P G.1 vwCl (mw G (z3 α β (su γ 41 0 0 0))) H9) (mN G sz)) 96 1032 (mN G sz) := by
  refine oE_body (E := fun U => sz ≤ U.heap.size) (cc := cX6_digest) (by decide +kernel) rfl (Nat.le_of_ble_eq_true rfl) ?_
  intro p e s m below meth c ls hx hb hml hr hlocks hown hts hP hK hN hE hl
  have hown : s.vm.findClass RX6 = some m.cls := hown
  have hl : lv_has ls 5 [(0, .ref (G.2.1 0))] := hl
  have hS : va_S (mN G sz) s.heap s.heap [] := va_S.rf
  have hK0 := hK
  have hE : sz ≤ s.heap.size := hE
  obtain ⟨hz1, hz2, hz3, hz4, hz5, hz6, hz7, hz8⟩ := id hz
  refine lv_aload_n hx hb dX6_digest_0 rfl (lv_at hl 0 rfl) ?_
  refine lv_iconst (v := 0) hx hb dX6_digest_1 (by decide) ?_
  refine va_put (D := G.1) (ci := 8) (v := .int 0) (ty := .int) (C := RX6) (T := TX6) (N := 6) hx hb hts (fun w9 h9 => List.mem_cons_of_mem _ (List.mem_append_left _ (List.mem_append_right _ (h9)))) tyX6 tyX6_ok nmX6 hown hK hP (mN_D hI) hS (0) (mw_M G (z3 α β γ)) rfl 0 (by decide) (hts (.fieldLink RX6 28 "OrganCensusModel" "thrown" "I") (List.mem_of_getElem? (i := 1) rfl)) (fun _ h9 => h9) rfl (by decide +kernel) rfl rfl (Nat.le_of_ble_eq_true rfl) dX6_digest_2 (fun H locs hP hD hS => ?_)
  have hP : va_P G.1 vwCl (mw G (z3 α β (su γ 41 0 0 0))) H := by rw [← (mw_zP (a := α) (b := β) (c := γ) (τ' := su γ 41 0 0 0) (mw_uM0 G (z3 α β γ) 0))]; exact hP
  clear hD
  refine lv_ldc2 hx hb hown (hts (.constantLong RX6 191 (587)) (List.mem_of_getElem? (i := 2) rfl)) dX6_digest_5 ?_
  refine lv_lstore_n (lv' := [(1, .long ((587 : Int64))), (0, .ref (G.2.1 0))]) hx hb dX6_digest_8 rfl hl (by decide) rfl (fun ls hl => ?_)
  refine lv_iconst (v := 0) hx hb dX6_digest_9 (by decide) ?_
  refine lv_istore_n (lv' := [(3, .int 0), (1, .long ((587 : Int64))), (0, .ref (G.2.1 0))]) hx hb dX6_digest_10 rfl hl (by decide) rfl (fun ls hl => ?_)
  have lp11 : ∀ (d11 k : Nat), k + d11 = 8 → ∀ x11_1 : Int64, x11_1 = (mD1 α (su γ 41 0 0 0) nS nO k) → ∀ x11_3 : Int32, x11_3 = (nI k) → ∀ (τ11 : oZ), τ11 = (z3 α β (su γ 41 0 0 0)) → ∀ (H : Heap) (locs : List Loc), va_P G.1 vwCl (mw G τ11) H → va_S (mN G sz) s.heap H locs → ∀ ls : Array Slot, lv_has ls 5 [(0, .ref (G.2.1 0)), (1, .long (x11_1)), (3, .int x11_3)] → W p l e ({ frames := 6, cells := 96, slots := 1032, locals := 141 } : Room) s m ([.ref (G.2.1 0)] : List Value).toArray below meth c H locs k (8 * k) (MQ below (oQ (some (.long (mDig α (su γ 41 0 0 0) nS nO nH nP))) (fun H9 => va_P G.1 vwCl (mw G (z3 α β (su γ 41 0 0 0))) H9) (mN G sz)) ([.ref (G.2.1 0)] : List Value).toArray s 96 1032 (mN G sz)) (F0 m 11 ls []) := by
    intro d11
    induction d11 with
    | zero =>
      intro k hk11 x11_1 e11_1 x11_3 e11_3 τ11 eτ11 H locs hP hS ls hl
      subst e11_1
      subst e11_3
      subst eτ11
      have hk11 : k = 8 := by omega
      refine lv_iload_n hx hb dX6_digest_11 rfl (lv_at hl 2 rfl) ?_
      refine lv_bipush (v := 8) hx hb dX6_digest_12 (by decide) ?_
      refine lv_icmp_ge (tgt := 36) hx hb dX6_digest_14 (by decide) (fun c14 => ?_) (fun c14 => ?_)
      · have n14 := (o_nle (a := 8) (b := k) (by decide) rfl (by omega) (by omega)).mp c14
        refine lv_iconst (v := 0) hx hb dX6_digest_36 (by decide) ?_
        refine lv_istore_n (lv' := [(3, .int 0), (0, .ref (G.2.1 0)), (1, .long (mD1 α (su γ 41 0 0 0) nS nO k))]) hx hb dX6_digest_37 rfl hl (by decide) rfl (fun ls hl => ?_)
        have lp38 : ∀ (d38 k2 : Nat), k2 + d38 = nS → ∀ x38_1 : Int64, x38_1 = (mD2 α (su γ 41 0 0 0) nO nH (mD1 α (su γ 41 0 0 0) nS nO k) k2) → ∀ x38_3 : Int32, x38_3 = (nI k2) → ∀ (τ38 : oZ), τ38 = (z3 α β (su γ 41 0 0 0)) → ∀ (H : Heap) (locs : List Loc), va_P G.1 vwCl (mw G τ38) H → va_S (mN G sz) s.heap H locs → ∀ ls : Array Slot, lv_has ls 5 [(0, .ref (G.2.1 0)), (1, .long (x38_1)), (3, .int x38_3)] → W p l e ({ frames := 6, cells := 96, slots := 1032, locals := 141 } : Room) s m ([.ref (G.2.1 0)] : List Value).toArray below meth c H locs 8 64 (MQ below (oQ (some (.long (mDig α (su γ 41 0 0 0) nS nO nH nP))) (fun H9 => va_P G.1 vwCl (mw G (z3 α β (su γ 41 0 0 0))) H9) (mN G sz)) ([.ref (G.2.1 0)] : List Value).toArray s 96 1032 (mN G sz)) (F0 m 38 ls []) := by
          intro d38
          induction d38 with
          | zero =>
            intro k2 hk38 x38_1 e38_1 x38_3 e38_3 τ38 eτ38 H locs hP hS ls hl
            subst e38_1
            subst e38_3
            subst eτ38
            have hk38 : k2 = nS := by omega
            refine lv_iload_n hx hb dX6_digest_38 rfl (lv_at hl 2 rfl) ?_
            refine lv_aload_n hx hb dX6_digest_39 rfl (lv_at hl 0 rfl) ?_
            refine va_get (D := G.1) (ci := 8) (v := .ref (ms G 0 0)) (C := RX6) (T := TX6) (N := 6) hx hb hts (fun w9 h9 => List.mem_cons_of_mem _ (List.mem_append_left _ (List.mem_append_right _ (h9)))) hown hK hP (0) (mw_M G (z3 α β (su γ 41 0 0 0))) rfl 4 (by decide) (hts (.fieldLink RX6 21 "OrganCensusModel" "s" "LOrganCensusModel$State;") (List.mem_of_getElem? (i := 4) rfl)) (fun _ h9 => h9) rfl dX6_digest_40 ?_
            refine va_getN (D := G.1) (ci := 7) (v := .int (α 40 0 1)) (C := RX5) (T := TX5) (N := 21) hx hb hts (fun w9 h9 => List.mem_cons_of_mem _ (List.mem_append_right _ (h9))) hown hK hP (3 + 18 * 0 + (0)) (mv_S G (z3 α β (su γ 41 0 0 0)) (show 0 < 2 by decide)) rfl 1 (by decide) (va_Nw.use rfl (hN.1 (RX6, 32, RX5, "streets", "I", RX6) (List.mem_of_getElem? (i := 0) rfl))) (fun _ h9 => h9) rfl dX6_digest_43 ?_
            refine lv_icmp_ge (tgt := 144) hx hb dX6_digest_46 (by decide) (fun c46 => ?_) (fun c46 => ?_)
            · have n46 := (o_nle (a := nS) (b := k2) hz.1 rfl (by omega) (by omega)).mp c46
              refine lv_iconst (v := 0) hx hb dX6_digest_144 (by decide) ?_
              refine lv_istore_n (lv' := [(3, .int 0), (0, .ref (G.2.1 0)), (1, .long (mD2 α (su γ 41 0 0 0) nO nH (mD1 α (su γ 41 0 0 0) nS nO k) k2))]) hx hb dX6_digest_145 rfl hl (by decide) rfl (fun ls hl => ?_)
              have lp146 : ∀ (d146 k5 : Nat), k5 + d146 = nO → ∀ x146_1 : Int64, x146_1 = (mD3 α nS nO (mD2 α (su γ 41 0 0 0) nO nH (mD1 α (su γ 41 0 0 0) nS nO k) k2) k5) → ∀ x146_3 : Int32, x146_3 = (nI k5) → ∀ (τ146 : oZ), τ146 = (z3 α β (su γ 41 0 0 0)) → ∀ (H : Heap) (locs : List Loc), va_P G.1 vwCl (mw G τ146) H → va_S (mN G sz) s.heap H locs → ∀ ls : Array Slot, lv_has ls 5 [(0, .ref (G.2.1 0)), (1, .long (x146_1)), (3, .int x146_3)] → W p l e ({ frames := 6, cells := 96, slots := 1032, locals := 141 } : Room) s m ([.ref (G.2.1 0)] : List Value).toArray below meth c H locs (8 + 11 * k5) (64 + 121 * k5) (MQ below (oQ (some (.long (mDig α (su γ 41 0 0 0) nS nO nH nP))) (fun H9 => va_P G.1 vwCl (mw G (z3 α β (su γ 41 0 0 0))) H9) (mN G sz)) ([.ref (G.2.1 0)] : List Value).toArray s 96 1032 (mN G sz)) (F0 m 146 ls []) := by
                intro d146
                induction d146 with
                | zero =>
                  intro k5 hk146 x146_1 e146_1 x146_3 e146_3 τ146 eτ146 H locs hP hS ls hl
                  subst e146_1
                  subst e146_3
                  subst eτ146
                  have hk146 : k5 = nO := by omega
                  refine lv_iload_n hx hb dX6_digest_146 rfl (lv_at hl 2 rfl) ?_
                  refine lv_aload_n hx hb dX6_digest_147 rfl (lv_at hl 0 rfl) ?_
                  refine va_get (D := G.1) (ci := 8) (v := .ref (ms G 0 0)) (C := RX6) (T := TX6) (N := 6) hx hb hts (fun w9 h9 => List.mem_cons_of_mem _ (List.mem_append_left _ (List.mem_append_right _ (h9)))) hown hK hP (0) (mw_M G (z3 α β (su γ 41 0 0 0))) rfl 4 (by decide) (hts (.fieldLink RX6 21 "OrganCensusModel" "s" "LOrganCensusModel$State;") (List.mem_of_getElem? (i := 4) rfl)) (fun _ h9 => h9) rfl dX6_digest_148 ?_
                  refine va_getN (D := G.1) (ci := 7) (v := .int (α 40 0 2)) (C := RX5) (T := TX5) (N := 21) hx hb hts (fun w9 h9 => List.mem_cons_of_mem _ (List.mem_append_right _ (h9))) hown hK hP (3 + 18 * 0 + (0)) (mv_S G (z3 α β (su γ 41 0 0 0)) (show 0 < 2 by decide)) rfl 7 (by decide) (va_Nw.use rfl (hN.1 (RX6, 39, RX5, "organs", "I", RX6) (List.mem_of_getElem? (i := 1) rfl))) (fun _ h9 => h9) rfl dX6_digest_151 ?_
                  refine lv_icmp_ge (tgt := 238) hx hb dX6_digest_154 (by decide) (fun c154 => ?_) (fun c154 => ?_)
                  · have n154 := (o_nle (a := nO) (b := k5) hz.2.2.1 rfl (by omega) (by omega)).mp c154
                    refine lv_iconst (v := 0) hx hb dX6_digest_238 (by decide) ?_
                    refine lv_istore_n (lv' := [(3, .int 0), (0, .ref (G.2.1 0)), (1, .long (mD3 α nS nO (mD2 α (su γ 41 0 0 0) nO nH (mD1 α (su γ 41 0 0 0) nS nO k) k2) k5))]) hx hb dX6_digest_239 rfl hl (by decide) rfl (fun ls hl => ?_)
                    have lp240 : ∀ (d240 k8 : Nat), k8 + d240 = nP → ∀ x240_1 : Int64, x240_1 = (mD4 (su γ 41 0 0 0) (mD3 α nS nO (mD2 α (su γ 41 0 0 0) nO nH (mD1 α (su γ 41 0 0 0) nS nO k) k2) k5) k8) → ∀ x240_3 : Int32, x240_3 = (nI k8) → ∀ (τ240 : oZ), τ240 = (z3 α β (su γ 41 0 0 0)) → ∀ (H : Heap) (locs : List Loc), va_P G.1 vwCl (mw G τ240) H → va_S (mN G sz) s.heap H locs → ∀ ls : Array Slot, lv_has ls 5 [(0, .ref (G.2.1 0)), (1, .long (x240_1)), (3, .int x240_3)] → W p l e ({ frames := 6, cells := 96, slots := 1032, locals := 141 } : Room) s m ([.ref (G.2.1 0)] : List Value).toArray below meth c H locs (8 + 11 * nO) (64 + 121 * nO) (MQ below (oQ (some (.long (mDig α (su γ 41 0 0 0) nS nO nH nP))) (fun H9 => va_P G.1 vwCl (mw G (z3 α β (su γ 41 0 0 0))) H9) (mN G sz)) ([.ref (G.2.1 0)] : List Value).toArray s 96 1032 (mN G sz)) (F0 m 240 ls []) := by
                      intro d240
                      induction d240 with
                      | zero =>
                        intro k8 hk240 x240_1 e240_1 x240_3 e240_3 τ240 eτ240 H locs hP hS ls hl
                        subst e240_1
                        subst e240_3
                        subst eτ240
                        have hk240 : k8 = nP := by omega
                        refine lv_iload_n hx hb dX6_digest_240 rfl (lv_at hl 2 rfl) ?_
                        refine lv_aload_n hx hb dX6_digest_241 rfl (lv_at hl 0 rfl) ?_
                        refine va_get (D := G.1) (ci := 8) (v := .int ((su γ 41 0 0 0) 41 0 1)) (C := RX6) (T := TX6) (N := 6) hx hb hts (fun w9 h9 => List.mem_cons_of_mem _ (List.mem_append_left _ (List.mem_append_right _ (h9)))) hown hK hP (0) (mw_M G (z3 α β (su γ 41 0 0 0))) rfl 3 (by decide) (hts (.fieldLink RX6 148 "OrganCensusModel" "papered" "I") (List.mem_of_getElem? (i := 5) rfl)) (fun _ h9 => h9) rfl dX6_digest_242 ?_
                        refine lv_icmp_ge (tgt := 268) hx hb dX6_digest_245 (by decide) (fun c245 => ?_) (fun c245 => ?_)
                        · have n245 := (o_nle (a := nP) (b := k8) (show (su γ 41 0 0 0) 41 0 1 = nI nP from hp1) rfl (by omega) (by omega)).mp c245
                          refine lv_lload_n hx hb dX6_digest_268 rfl (lv_at hl 1 rfl) ?_
                          refine o_widen (k := 96) (n := 1032) (by omega) (by omega) ?_
                          exact o_lretM hx hb hr hlocks hS dX6_digest_269 (hP) (by subst hk11; subst hk38; subst hk146; subst hk240; rfl)
                        · have n245 := (mt (o_nle (a := nP) (b := k8) (show (su γ 41 0 0 0) 41 0 1 = nI nP from hp1) rfl (by omega) (by omega)).mpr) c245; omega
                      | succ d240 ih240 =>
                        intro k8 hk240 x240_1 e240_1 x240_3 e240_3 τ240 eτ240 H locs hP hS ls hl
                        subst e240_1
                        subst e240_3
                        subst eτ240
                        have hj240 : k8 < nP := by omega
                        refine lv_iload_n hx hb dX6_digest_240 rfl (lv_at hl 2 rfl) ?_
                        refine lv_aload_n hx hb dX6_digest_241 rfl (lv_at hl 0 rfl) ?_
                        refine va_get (D := G.1) (ci := 8) (v := .int ((su γ 41 0 0 0) 41 0 1)) (C := RX6) (T := TX6) (N := 6) hx hb hts (fun w9 h9 => List.mem_cons_of_mem _ (List.mem_append_left _ (List.mem_append_right _ (h9)))) hown hK hP (0) (mw_M G (z3 α β (su γ 41 0 0 0))) rfl 3 (by decide) (hts (.fieldLink RX6 148 "OrganCensusModel" "papered" "I") (List.mem_of_getElem? (i := 5) rfl)) (fun _ h9 => h9) rfl dX6_digest_242 ?_
                        refine lv_icmp_ge (tgt := 268) hx hb dX6_digest_245 (by decide) (fun c245 => ?_) (fun c245 => ?_)
                        · have n245 := (o_nle (a := nP) (b := k8) (show (su γ 41 0 0 0) 41 0 1 = nI nP from hp1) rfl (by omega) (by omega)).mp c245; omega
                        · have n245 := (mt (o_nle (a := nP) (b := k8) (show (su γ 41 0 0 0) 41 0 1 = nI nP from hp1) rfl (by omega) (by omega)).mpr) c245
                          refine lv_lload_n hx hb dX6_digest_248 rfl (lv_at hl 1 rfl) ?_
                          refine lv_ldc2 hx hb hown (hts (.constantLong RX6 193 (31)) (List.mem_of_getElem? (i := 3) rfl)) dX6_digest_249 ?_
                          refine lv_lmul hx hb dX6_digest_252 ?_
                          refine lv_aload_n hx hb dX6_digest_253 rfl (lv_at hl 0 rfl) ?_
                          refine va_get (D := G.1) (ci := 8) (v := .ref (G.2.1 2)) (C := RX6) (T := TX6) (N := 6) hx hb hts (fun w9 h9 => List.mem_cons_of_mem _ (List.mem_append_left _ (List.mem_append_right _ (h9)))) hown hK hP (0) (mw_M G (z3 α β (su γ 41 0 0 0))) rfl 2 (by decide) (hts (.fieldLink RX6 13 "OrganCensusModel" "paper" "[I") (List.mem_of_getElem? (i := 6) rfl)) (fun _ h9 => h9) rfl dX6_digest_254 ?_
                          refine lv_iload_n hx hb dX6_digest_257 rfl (lv_at hl 2 rfl) ?_
                          refine o_iald (k := k8) hx hb hK hP (2) 0 (mw_MW G (z3 α β (su γ 41 0 0 0))) rfl rfl (by omega) (by decide) dX6_digest_258 ?_
                          refine lv_i2l (v := ((su γ 41 0 0 0) 43 0 k8).toInt64) hx hb dX6_digest_259 rfl ?_
                          refine lv_ladd hx hb dX6_digest_260 ?_
                          refine lv_lstore_n (lv' := [(1, .long (((mD4 (su γ 41 0 0 0) (mD3 α nS nO (mD2 α (su γ 41 0 0 0) nO nH (mD1 α (su γ 41 0 0 0) nS nO k) k2) k5) k8) * (31 : Int64)) + (((su γ 41 0 0 0) 43 0 k8).toInt64))), (0, .ref (G.2.1 0)), (3, .int (nI k8))]) hx hb dX6_digest_261 rfl hl (by decide) rfl (fun ls hl => ?_)
                          refine lv_iinc (v := nI (k8 + 1)) (lv' := [(3, .int (nI (k8 + 1))), (1, .long (((mD4 (su γ 41 0 0 0) (mD3 α nS nO (mD2 α (su γ 41 0 0 0) nO nH (mD1 α (su γ 41 0 0 0) nS nO k) k2) k5) k8) * (31 : Int64)) + (((su γ 41 0 0 0) 43 0 k8).toInt64))), (0, .ref (G.2.1 0))]) hx hb dX6_digest_262 hl (k := 2) rfl (nI_1 k8) (by decide) rfl (fun ls hl => ?_)
                          refine lv_goto (tgt := 240) hx hb dX6_digest_265 (by decide) ?_
                          refine o_widen (k := 8 + 11 * nO) (n := 64 + 121 * nO) (by omega) (by omega) ?_
                          exact ih240 (k8 + 1) (by omega) _ (rfl) _ (rfl) _ (rfl) _ _ hP hS ls (lv_sub hl [2, 1, 0] rfl)
                    refine o_widen (k := 8 + 11 * nO) (n := 64 + 121 * nO) (by omega) (by omega) ?_
                    exact lp240 (nP) 0 (by omega) _ (rfl) _ (rfl) _ (rfl) _ _ hP hS ls (lv_sub hl [1, 2, 0] rfl)
                  · have n154 := (mt (o_nle (a := nO) (b := k5) hz.2.2.1 rfl (by omega) (by omega)).mpr) c154; omega
                | succ d146 ih146 =>
                  intro k5 hk146 x146_1 e146_1 x146_3 e146_3 τ146 eτ146 H locs hP hS ls hl
                  subst e146_1
                  subst e146_3
                  subst eτ146
                  have hj146 : k5 < nO := by omega
                  refine lv_iload_n hx hb dX6_digest_146 rfl (lv_at hl 2 rfl) ?_
                  refine lv_aload_n hx hb dX6_digest_147 rfl (lv_at hl 0 rfl) ?_
                  refine va_get (D := G.1) (ci := 8) (v := .ref (ms G 0 0)) (C := RX6) (T := TX6) (N := 6) hx hb hts (fun w9 h9 => List.mem_cons_of_mem _ (List.mem_append_left _ (List.mem_append_right _ (h9)))) hown hK hP (0) (mw_M G (z3 α β (su γ 41 0 0 0))) rfl 4 (by decide) (hts (.fieldLink RX6 21 "OrganCensusModel" "s" "LOrganCensusModel$State;") (List.mem_of_getElem? (i := 4) rfl)) (fun _ h9 => h9) rfl dX6_digest_148 ?_
                  refine va_getN (D := G.1) (ci := 7) (v := .int (α 40 0 2)) (C := RX5) (T := TX5) (N := 21) hx hb hts (fun w9 h9 => List.mem_cons_of_mem _ (List.mem_append_right _ (h9))) hown hK hP (3 + 18 * 0 + (0)) (mv_S G (z3 α β (su γ 41 0 0 0)) (show 0 < 2 by decide)) rfl 7 (by decide) (va_Nw.use rfl (hN.1 (RX6, 39, RX5, "organs", "I", RX6) (List.mem_of_getElem? (i := 1) rfl))) (fun _ h9 => h9) rfl dX6_digest_151 ?_
                  refine lv_icmp_ge (tgt := 238) hx hb dX6_digest_154 (by decide) (fun c154 => ?_) (fun c154 => ?_)
                  · have n154 := (o_nle (a := nO) (b := k5) hz.2.2.1 rfl (by omega) (by omega)).mp c154; omega
                  · have n154 := (mt (o_nle (a := nO) (b := k5) hz.2.2.1 rfl (by omega) (by omega)).mpr) c154
                    refine lv_iconst (v := 0) hx hb dX6_digest_157 (by decide) ?_
                    refine lv_istore (lv' := [(4, .int 0), (0, .ref (G.2.1 0)), (1, .long (mD3 α nS nO (mD2 α (su γ 41 0 0 0) nO nH (mD1 α (su γ 41 0 0 0) nS nO k) k2) k5)), (3, .int (nI k5))]) hx hb dX6_digest_158 hl (by decide) rfl (fun ls hl => ?_)
                    have lp160 : ∀ (d160 k6 : Nat), k6 + d160 = 11 → ∀ x160_1 : Int64, x160_1 = (mO1 α nS nO k5 (mD3 α nS nO (mD2 α (su γ 41 0 0 0) nO nH (mD1 α (su γ 41 0 0 0) nS nO k) k2) k5) k6) → ∀ x160_4 : Int32, x160_4 = (nI k6) → ∀ (τ160 : oZ), τ160 = (z3 α β (su γ 41 0 0 0)) → ∀ (H : Heap) (locs : List Loc), va_P G.1 vwCl (mw G τ160) H → va_S (mN G sz) s.heap H locs → ∀ ls : Array Slot, lv_has ls 5 [(0, .ref (G.2.1 0)), (3, .int (nI k5)), (1, .long (x160_1)), (4, .int x160_4)] → W p l e ({ frames := 6, cells := 96, slots := 1032, locals := 141 } : Room) s m ([.ref (G.2.1 0)] : List Value).toArray below meth c H locs (8 + 11 * k5 + k6) (64 + 121 * k5 + 11 * k6) (MQ below (oQ (some (.long (mDig α (su γ 41 0 0 0) nS nO nH nP))) (fun H9 => va_P G.1 vwCl (mw G (z3 α β (su γ 41 0 0 0))) H9) (mN G sz)) ([.ref (G.2.1 0)] : List Value).toArray s 96 1032 (mN G sz)) (F0 m 160 ls []) := by
                      intro d160
                      induction d160 with
                      | zero =>
                        intro k6 hk160 x160_1 e160_1 x160_4 e160_4 τ160 eτ160 H locs hP hS ls hl
                        subst e160_1
                        subst e160_4
                        subst eτ160
                        have hk160 : k6 = 11 := by omega
                        refine lv_iload hx hb dX6_digest_160 (lv_at hl 3 rfl) ?_
                        refine lv_bipush (v := 11) hx hb dX6_digest_162 (by decide) ?_
                        refine lv_icmp_ge (tgt := 188) hx hb dX6_digest_164 (by decide) (fun c164 => ?_) (fun c164 => ?_)
                        · have n164 := (o_nle (a := 11) (b := k6) (by decide) rfl (by omega) (by omega)).mp c164
                          refine lv_iconst (v := 0) hx hb dX6_digest_188 (by decide) ?_
                          refine lv_istore (lv' := [(4, .int 0), (0, .ref (G.2.1 0)), (3, .int (nI k5)), (1, .long (mO1 α nS nO k5 (mD3 α nS nO (mD2 α (su γ 41 0 0 0) nO nH (mD1 α (su γ 41 0 0 0) nS nO k) k2) k5) k6))]) hx hb dX6_digest_189 hl (by decide) rfl (fun ls hl => ?_)
                          have lp191 : ∀ (d191 k7 : Nat), k7 + d191 = nS → ∀ x191_1 : Int64, x191_1 = (mO2 α k5 (mO1 α nS nO k5 (mD3 α nS nO (mD2 α (su γ 41 0 0 0) nO nH (mD1 α (su γ 41 0 0 0) nS nO k) k2) k5) k6) k7) → ∀ x191_4 : Int32, x191_4 = (nI k7) → ∀ (τ191 : oZ), τ191 = (z3 α β (su γ 41 0 0 0)) → ∀ (H : Heap) (locs : List Loc), va_P G.1 vwCl (mw G τ191) H → va_S (mN G sz) s.heap H locs → ∀ ls : Array Slot, lv_has ls 5 [(0, .ref (G.2.1 0)), (3, .int (nI k5)), (1, .long (x191_1)), (4, .int x191_4)] → W p l e ({ frames := 6, cells := 96, slots := 1032, locals := 141 } : Room) s m ([.ref (G.2.1 0)] : List Value).toArray below meth c H locs (8 + 11 * k5 + 11) (64 + 121 * k5 + 121) (MQ below (oQ (some (.long (mDig α (su γ 41 0 0 0) nS nO nH nP))) (fun H9 => va_P G.1 vwCl (mw G (z3 α β (su γ 41 0 0 0))) H9) (mN G sz)) ([.ref (G.2.1 0)] : List Value).toArray s 96 1032 (mN G sz)) (F0 m 191 ls []) := by
                            intro d191
                            induction d191 with
                            | zero =>
                              intro k7 hk191 x191_1 e191_1 x191_4 e191_4 τ191 eτ191 H locs hP hS ls hl
                              subst e191_1
                              subst e191_4
                              subst eτ191
                              have hk191 : k7 = nS := by omega
                              refine lv_iload hx hb dX6_digest_191 (lv_at hl 3 rfl) ?_
                              refine lv_aload_n hx hb dX6_digest_193 rfl (lv_at hl 0 rfl) ?_
                              refine va_get (D := G.1) (ci := 8) (v := .ref (ms G 0 0)) (C := RX6) (T := TX6) (N := 6) hx hb hts (fun w9 h9 => List.mem_cons_of_mem _ (List.mem_append_left _ (List.mem_append_right _ (h9)))) hown hK hP (0) (mw_M G (z3 α β (su γ 41 0 0 0))) rfl 4 (by decide) (hts (.fieldLink RX6 21 "OrganCensusModel" "s" "LOrganCensusModel$State;") (List.mem_of_getElem? (i := 4) rfl)) (fun _ h9 => h9) rfl dX6_digest_194 ?_
                              refine va_getN (D := G.1) (ci := 7) (v := .int (α 40 0 1)) (C := RX5) (T := TX5) (N := 21) hx hb hts (fun w9 h9 => List.mem_cons_of_mem _ (List.mem_append_right _ (h9))) hown hK hP (3 + 18 * 0 + (0)) (mv_S G (z3 α β (su γ 41 0 0 0)) (show 0 < 2 by decide)) rfl 1 (by decide) (va_Nw.use rfl (hN.1 (RX6, 32, RX5, "streets", "I", RX6) (List.mem_of_getElem? (i := 0) rfl))) (fun _ h9 => h9) rfl dX6_digest_197 ?_
                              refine lv_icmp_ge (tgt := 232) hx hb dX6_digest_200 (by decide) (fun c200 => ?_) (fun c200 => ?_)
                              · have n200 := (o_nle (a := nS) (b := k7) hz.1 rfl (by omega) (by omega)).mp c200
                                refine lv_iinc (v := nI (k5 + 1)) (lv' := [(3, .int (nI (k5 + 1))), (0, .ref (G.2.1 0)), (1, .long (mO2 α k5 (mO1 α nS nO k5 (mD3 α nS nO (mD2 α (su γ 41 0 0 0) nO nH (mD1 α (su γ 41 0 0 0) nS nO k) k2) k5) k6) k7)), (4, .int (nI k7))]) hx hb dX6_digest_232 hl (k := 1) rfl (nI_1 k5) (by decide) rfl (fun ls hl => ?_)
                                refine lv_goto (tgt := 146) hx hb dX6_digest_235 (by decide) ?_
                                refine o_widen (k := 8 + 11 * (k5 + 1)) (n := 64 + 121 * (k5 + 1)) (by omega) (by omega) ?_
                                exact ih146 (k5 + 1) (by omega) _ (by subst hk160; subst hk191; rfl) _ (rfl) _ (rfl) _ _ hP hS ls (lv_sub hl [1, 2, 0] rfl)
                              · have n200 := (mt (o_nle (a := nS) (b := k7) hz.1 rfl (by omega) (by omega)).mpr) c200; omega
                            | succ d191 ih191 =>
                              intro k7 hk191 x191_1 e191_1 x191_4 e191_4 τ191 eτ191 H locs hP hS ls hl
                              subst e191_1
                              subst e191_4
                              subst eτ191
                              have hj191 : k7 < nS := by omega
                              refine lv_iload hx hb dX6_digest_191 (lv_at hl 3 rfl) ?_
                              refine lv_aload_n hx hb dX6_digest_193 rfl (lv_at hl 0 rfl) ?_
                              refine va_get (D := G.1) (ci := 8) (v := .ref (ms G 0 0)) (C := RX6) (T := TX6) (N := 6) hx hb hts (fun w9 h9 => List.mem_cons_of_mem _ (List.mem_append_left _ (List.mem_append_right _ (h9)))) hown hK hP (0) (mw_M G (z3 α β (su γ 41 0 0 0))) rfl 4 (by decide) (hts (.fieldLink RX6 21 "OrganCensusModel" "s" "LOrganCensusModel$State;") (List.mem_of_getElem? (i := 4) rfl)) (fun _ h9 => h9) rfl dX6_digest_194 ?_
                              refine va_getN (D := G.1) (ci := 7) (v := .int (α 40 0 1)) (C := RX5) (T := TX5) (N := 21) hx hb hts (fun w9 h9 => List.mem_cons_of_mem _ (List.mem_append_right _ (h9))) hown hK hP (3 + 18 * 0 + (0)) (mv_S G (z3 α β (su γ 41 0 0 0)) (show 0 < 2 by decide)) rfl 1 (by decide) (va_Nw.use rfl (hN.1 (RX6, 32, RX5, "streets", "I", RX6) (List.mem_of_getElem? (i := 0) rfl))) (fun _ h9 => h9) rfl dX6_digest_197 ?_
                              refine lv_icmp_ge (tgt := 232) hx hb dX6_digest_200 (by decide) (fun c200 => ?_) (fun c200 => ?_)
                              · have n200 := (o_nle (a := nS) (b := k7) hz.1 rfl (by omega) (by omega)).mp c200; omega
                              · have n200 := (mt (o_nle (a := nS) (b := k7) hz.1 rfl (by omega) (by omega)).mpr) c200
                                refine lv_lload_n hx hb dX6_digest_203 rfl (lv_at hl 2 rfl) ?_
                                refine lv_ldc2 hx hb hown (hts (.constantLong RX6 193 (31)) (List.mem_of_getElem? (i := 3) rfl)) dX6_digest_204 ?_
                                refine lv_lmul hx hb dX6_digest_207 ?_
                                refine lv_aload_n hx hb dX6_digest_208 rfl (lv_at hl 0 rfl) ?_
                                refine va_get (D := G.1) (ci := 8) (v := .ref (ms G 0 0)) (C := RX6) (T := TX6) (N := 6) hx hb hts (fun w9 h9 => List.mem_cons_of_mem _ (List.mem_append_left _ (List.mem_append_right _ (h9)))) hown hK hP (0) (mw_M G (z3 α β (su γ 41 0 0 0))) rfl 4 (by decide) (hts (.fieldLink RX6 21 "OrganCensusModel" "s" "LOrganCensusModel$State;") (List.mem_of_getElem? (i := 4) rfl)) (fun _ h9 => h9) rfl dX6_digest_209 ?_
                                refine va_getN (D := G.1) (ci := 7) (v := .ref (ms G 0 15)) (C := RX5) (T := TX5) (N := 21) hx hb hts (fun w9 h9 => List.mem_cons_of_mem _ (List.mem_append_right _ (h9))) hown hK hP (3 + 18 * 0 + (0)) (mv_S G (z3 α β (su γ 41 0 0 0)) (show 0 < 2 by decide)) rfl 17 (by decide) (va_Nw.use rfl (hN.1 (RX6, 111, RX5, "banished", "[I", RX6) (List.mem_of_getElem? (i := 14) rfl))) (fun _ h9 => h9) rfl dX6_digest_212 ?_
                                refine lv_bipush (v := 6) hx hb dX6_digest_215 (by decide) ?_
                                refine lv_iload_n hx hb dX6_digest_217 rfl (lv_at hl 1 rfl) ?_
                                refine lv_imul hx hb dX6_digest_218 ?_
                                refine lv_iload hx hb dX6_digest_219 (lv_at hl 3 rfl) ?_
                                refine lv_iadd hx hb dX6_digest_221 ?_
                                refine o_iald (k := (6 * k5) + k7) hx hb hK hP (3 + 18 * 0 + (15)) 0 (mv_A15 G (z3 α β (su γ 41 0 0 0)) (show 0 < 2 by decide)) rfl (o_nadd (o_nmul (by decide) rfl) rfl) (by omega) (by decide) dX6_digest_222 ?_
                                refine lv_i2l (v := (α 15 0 ((6 * k5) + k7)).toInt64) hx hb dX6_digest_223 rfl ?_
                                refine lv_ladd hx hb dX6_digest_224 ?_
                                refine lv_lstore_n (lv' := [(1, .long (((mO2 α k5 (mO1 α nS nO k5 (mD3 α nS nO (mD2 α (su γ 41 0 0 0) nO nH (mD1 α (su γ 41 0 0 0) nS nO k) k2) k5) k6) k7) * (31 : Int64)) + ((α 15 0 ((6 * k5) + k7)).toInt64))), (0, .ref (G.2.1 0)), (3, .int (nI k5)), (4, .int (nI k7))]) hx hb dX6_digest_225 rfl hl (by decide) rfl (fun ls hl => ?_)
                                refine lv_iinc (v := nI (k7 + 1)) (lv' := [(4, .int (nI (k7 + 1))), (1, .long (((mO2 α k5 (mO1 α nS nO k5 (mD3 α nS nO (mD2 α (su γ 41 0 0 0) nO nH (mD1 α (su γ 41 0 0 0) nS nO k) k2) k5) k6) k7) * (31 : Int64)) + ((α 15 0 ((6 * k5) + k7)).toInt64))), (0, .ref (G.2.1 0)), (3, .int (nI k5))]) hx hb dX6_digest_226 hl (k := 3) rfl (nI_1 k7) (by decide) rfl (fun ls hl => ?_)
                                refine lv_goto (tgt := 191) hx hb dX6_digest_229 (by decide) ?_
                                refine o_widen (k := 8 + 11 * k5 + 11) (n := 64 + 121 * k5 + 121) (by omega) (by omega) ?_
                                exact ih191 (k7 + 1) (by omega) _ (rfl) _ (rfl) _ (rfl) _ _ hP hS ls (lv_sub hl [2, 3, 1, 0] rfl)
                          refine o_widen (k := 8 + 11 * k5 + 11) (n := 64 + 121 * k5 + 121) (by omega) (by omega) ?_
                          exact lp191 (nS) 0 (by omega) _ (rfl) _ (rfl) _ (rfl) _ _ hP hS ls (lv_sub hl [1, 2, 3, 0] rfl)
                        · have n164 := (mt (o_nle (a := 11) (b := k6) (by decide) rfl (by omega) (by omega)).mpr) c164; omega
                      | succ d160 ih160 =>
                        intro k6 hk160 x160_1 e160_1 x160_4 e160_4 τ160 eτ160 H locs hP hS ls hl
                        subst e160_1
                        subst e160_4
                        subst eτ160
                        have hj160 : k6 < 11 := by omega
                        refine lv_iload hx hb dX6_digest_160 (lv_at hl 3 rfl) ?_
                        refine lv_bipush (v := 11) hx hb dX6_digest_162 (by decide) ?_
                        refine lv_icmp_ge (tgt := 188) hx hb dX6_digest_164 (by decide) (fun c164 => ?_) (fun c164 => ?_)
                        · have n164 := (o_nle (a := 11) (b := k6) (by decide) rfl (by omega) (by omega)).mp c164; omega
                        · have n164 := (mt (o_nle (a := 11) (b := k6) (by decide) rfl (by omega) (by omega)).mpr) c164
                          refine lv_lload_n hx hb dX6_digest_167 rfl (lv_at hl 2 rfl) ?_
                          refine lv_ldc2 hx hb hown (hts (.constantLong RX6 193 (31)) (List.mem_of_getElem? (i := 3) rfl)) dX6_digest_168 ?_
                          refine lv_lmul hx hb dX6_digest_171 ?_
                          refine lv_aload_n hx hb dX6_digest_172 rfl (lv_at hl 0 rfl) ?_
                          refine lv_iload_n hx hb dX6_digest_173 rfl (lv_at hl 1 rfl) ?_
                          refine lv_iload hx hb dX6_digest_174 (lv_at hl 3 rfl) ?_
                          refine oN_cV (q0 := 0) (ci := 8) [.int (nI k5), .int (nI k6)] [.long ((mO1 α nS nO k5 (mD3 α nS nO (mD2 α (su γ 41 0 0 0) nO nH (mD1 α (su γ 41 0 0 0) nS nO k) k2) k5) k6) * (31 : Int64))] ⟨hx, hb, hml, hown, hts⟩ (m_X6_organTold l G hI α β (su γ 41 0 0 0) sz nS nO nH hz k5 (nI k5) (rfl) (by omega) k6 (nI k6) (rfl) (by omega)) (cwV 2 hts gX6_digest_X6_organTold rfl rfl rfl (by decide +kernel) ⟨Nat.le_of_ble_eq_true rfl, Nat.le_of_ble_eq_true rfl⟩) hK hN hP (Nat.le_trans hE hS.1) hS rfl rfl (mw_M G (z3 α β (su γ 41 0 0 0))) rfl hl.1 rfl (Nat.le_of_ble_eq_true rfl) dX6_digest_176 ⟨(show 8 + 11 * k5 + k6 + 1 ≤ 96 by omega), (show 64 + 121 * k5 + 11 * k6 + 11 ≤ 1032 by omega)⟩ (fun H locs hP hS => ?_)
                          change W _ _ _ _ _ _ _ _ _ _ _ _ _ _ _ (F0 m 179 ls (.int (mOT α nS nO k5 k6) :: [.long ((mO1 α nS nO k5 (mD3 α nS nO (mD2 α (su γ 41 0 0 0) nO nH (mD1 α (su γ 41 0 0 0) nS nO k) k2) k5) k6) * (31 : Int64))]))
                          have hP : va_P G.1 vwCl (mw G (z3 α β (su γ 41 0 0 0))) H := hP
                          refine lv_i2l (v := (mOT α nS nO k5 k6).toInt64) hx hb dX6_digest_179 rfl ?_
                          refine lv_ladd hx hb dX6_digest_180 ?_
                          refine lv_lstore_n (lv' := [(1, .long (((mO1 α nS nO k5 (mD3 α nS nO (mD2 α (su γ 41 0 0 0) nO nH (mD1 α (su γ 41 0 0 0) nS nO k) k2) k5) k6) * (31 : Int64)) + ((mOT α nS nO k5 k6).toInt64))), (0, .ref (G.2.1 0)), (3, .int (nI k5)), (4, .int (nI k6))]) hx hb dX6_digest_181 rfl hl (by decide) rfl (fun ls hl => ?_)
                          refine lv_iinc (v := nI (k6 + 1)) (lv' := [(4, .int (nI (k6 + 1))), (1, .long (((mO1 α nS nO k5 (mD3 α nS nO (mD2 α (su γ 41 0 0 0) nO nH (mD1 α (su γ 41 0 0 0) nS nO k) k2) k5) k6) * (31 : Int64)) + ((mOT α nS nO k5 k6).toInt64))), (0, .ref (G.2.1 0)), (3, .int (nI k5))]) hx hb dX6_digest_182 hl (k := 3) rfl (nI_1 k6) (by decide) rfl (fun ls hl => ?_)
                          refine lv_goto (tgt := 160) hx hb dX6_digest_185 (by decide) ?_
                          refine o_widen (k := 8 + 11 * k5 + (k6 + 1)) (n := 64 + 121 * k5 + 11 * (k6 + 1)) (by omega) (by omega) ?_
                          exact ih160 (k6 + 1) (by omega) _ (rfl) _ (rfl) _ (rfl) _ _ hP hS ls (lv_sub hl [2, 3, 1, 0] rfl)
                    refine o_widen (k := 8 + 11 * k5 + 0) (n := 64 + 121 * k5 + 11 * 0) (by omega) (by omega) ?_
                    exact lp160 (11) 0 (by omega) _ (rfl) _ (rfl) _ (rfl) _ _ hP hS ls (lv_sub hl [1, 3, 2, 0] rfl)
              refine o_widen (k := 8 + 11 * 0) (n := 64 + 121 * 0) (by omega) (by omega) ?_
              exact lp146 (nO) 0 (by omega) _ (rfl) _ (rfl) _ (rfl) _ _ hP hS ls (lv_sub hl [1, 2, 0] rfl)
            · have n46 := (mt (o_nle (a := nS) (b := k2) hz.1 rfl (by omega) (by omega)).mpr) c46; omega
          | succ d38 ih38 =>
            intro k2 hk38 x38_1 e38_1 x38_3 e38_3 τ38 eτ38 H locs hP hS ls hl
            subst e38_1
            subst e38_3
            subst eτ38
            have hj38 : k2 < nS := by omega
            refine lv_iload_n hx hb dX6_digest_38 rfl (lv_at hl 2 rfl) ?_
            refine lv_aload_n hx hb dX6_digest_39 rfl (lv_at hl 0 rfl) ?_
            refine va_get (D := G.1) (ci := 8) (v := .ref (ms G 0 0)) (C := RX6) (T := TX6) (N := 6) hx hb hts (fun w9 h9 => List.mem_cons_of_mem _ (List.mem_append_left _ (List.mem_append_right _ (h9)))) hown hK hP (0) (mw_M G (z3 α β (su γ 41 0 0 0))) rfl 4 (by decide) (hts (.fieldLink RX6 21 "OrganCensusModel" "s" "LOrganCensusModel$State;") (List.mem_of_getElem? (i := 4) rfl)) (fun _ h9 => h9) rfl dX6_digest_40 ?_
            refine va_getN (D := G.1) (ci := 7) (v := .int (α 40 0 1)) (C := RX5) (T := TX5) (N := 21) hx hb hts (fun w9 h9 => List.mem_cons_of_mem _ (List.mem_append_right _ (h9))) hown hK hP (3 + 18 * 0 + (0)) (mv_S G (z3 α β (su γ 41 0 0 0)) (show 0 < 2 by decide)) rfl 1 (by decide) (va_Nw.use rfl (hN.1 (RX6, 32, RX5, "streets", "I", RX6) (List.mem_of_getElem? (i := 0) rfl))) (fun _ h9 => h9) rfl dX6_digest_43 ?_
            refine lv_icmp_ge (tgt := 144) hx hb dX6_digest_46 (by decide) (fun c46 => ?_) (fun c46 => ?_)
            · have n46 := (o_nle (a := nS) (b := k2) hz.1 rfl (by omega) (by omega)).mp c46; omega
            · have n46 := (mt (o_nle (a := nS) (b := k2) hz.1 rfl (by omega) (by omega)).mpr) c46
              refine lv_iconst (v := 0) hx hb dX6_digest_49 (by decide) ?_
              refine lv_istore (lv' := [(4, .int 0), (0, .ref (G.2.1 0)), (1, .long (mD2 α (su γ 41 0 0 0) nO nH (mD1 α (su γ 41 0 0 0) nS nO k) k2)), (3, .int (nI k2))]) hx hb dX6_digest_50 hl (by decide) rfl (fun ls hl => ?_)
              have lp52 : ∀ (d52 k3 : Nat), k3 + d52 = 8 → ∀ x52_1 : Int64, x52_1 = (mS1 α (su γ 41 0 0 0) nO nH k2 (mD2 α (su γ 41 0 0 0) nO nH (mD1 α (su γ 41 0 0 0) nS nO k) k2) k3) → ∀ x52_4 : Int32, x52_4 = (nI k3) → ∀ (τ52 : oZ), τ52 = (z3 α β (su γ 41 0 0 0)) → ∀ (H : Heap) (locs : List Loc), va_P G.1 vwCl (mw G τ52) H → va_S (mN G sz) s.heap H locs → ∀ ls : Array Slot, lv_has ls 5 [(0, .ref (G.2.1 0)), (3, .int (nI k2)), (1, .long (x52_1)), (4, .int x52_4)] → W p l e ({ frames := 6, cells := 96, slots := 1032, locals := 141 } : Room) s m ([.ref (G.2.1 0)] : List Value).toArray below meth c H locs 8 64 (MQ below (oQ (some (.long (mDig α (su γ 41 0 0 0) nS nO nH nP))) (fun H9 => va_P G.1 vwCl (mw G (z3 α β (su γ 41 0 0 0))) H9) (mN G sz)) ([.ref (G.2.1 0)] : List Value).toArray s 96 1032 (mN G sz)) (F0 m 52 ls []) := by
                intro d52
                induction d52 with
                | zero =>
                  intro k3 hk52 x52_1 e52_1 x52_4 e52_4 τ52 eτ52 H locs hP hS ls hl
                  subst e52_1
                  subst e52_4
                  subst eτ52
                  have hk52 : k3 = 8 := by omega
                  refine lv_iload hx hb dX6_digest_52 (lv_at hl 3 rfl) ?_
                  refine lv_bipush (v := 8) hx hb dX6_digest_54 (by decide) ?_
                  refine lv_icmp_ge (tgt := 80) hx hb dX6_digest_56 (by decide) (fun c56 => ?_) (fun c56 => ?_)
                  · have n56 := (o_nle (a := 8) (b := k3) (by decide) rfl (by omega) (by omega)).mp c56
                    refine lv_bipush (v := 6) hx hb dX6_digest_80 (by decide) ?_
                    refine lv_iload_n hx hb dX6_digest_82 rfl (lv_at hl 1 rfl) ?_
                    refine lv_imul hx hb dX6_digest_83 ?_
                    refine lv_istore (lv' := [(4, .int (6 * (nI k2))), (0, .ref (G.2.1 0)), (3, .int (nI k2)), (1, .long (mS1 α (su γ 41 0 0 0) nO nH k2 (mD2 α (su γ 41 0 0 0) nO nH (mD1 α (su γ 41 0 0 0) nS nO k) k2) k3))]) hx hb dX6_digest_84 hl (by decide) rfl (fun ls hl => ?_)
                    have lp86 : ∀ (d86 k4 : Nat), k4 + d86 = 6 → ∀ x86_1 : Int64, x86_1 = (mS2 α k2 (mS1 α (su γ 41 0 0 0) nO nH k2 (mD2 α (su γ 41 0 0 0) nO nH (mD1 α (su γ 41 0 0 0) nS nO k) k2) k3) k4) → ∀ x86_4 : Int32, x86_4 = (nI (6 * k2 + k4)) → ∀ (τ86 : oZ), τ86 = (z3 α β (su γ 41 0 0 0)) → ∀ (H : Heap) (locs : List Loc), va_P G.1 vwCl (mw G τ86) H → va_S (mN G sz) s.heap H locs → ∀ ls : Array Slot, lv_has ls 5 [(0, .ref (G.2.1 0)), (3, .int (nI k2)), (1, .long (x86_1)), (4, .int x86_4)] → W p l e ({ frames := 6, cells := 96, slots := 1032, locals := 141 } : Room) s m ([.ref (G.2.1 0)] : List Value).toArray below meth c H locs 8 64 (MQ below (oQ (some (.long (mDig α (su γ 41 0 0 0) nS nO nH nP))) (fun H9 => va_P G.1 vwCl (mw G (z3 α β (su γ 41 0 0 0))) H9) (mN G sz)) ([.ref (G.2.1 0)] : List Value).toArray s 96 1032 (mN G sz)) (F0 m 86 ls []) := by
                      intro d86
                      induction d86 with
                      | zero =>
                        intro k4 hk86 x86_1 e86_1 x86_4 e86_4 τ86 eτ86 H locs hP hS ls hl
                        subst e86_1
                        subst e86_4
                        subst eτ86
                        have hk86 : k4 = 6 := by omega
                        refine lv_iload hx hb dX6_digest_86 (lv_at hl 3 rfl) ?_
                        refine lv_bipush (v := 6) hx hb dX6_digest_88 (by decide) ?_
                        refine lv_iload_n hx hb dX6_digest_90 rfl (lv_at hl 1 rfl) ?_
                        refine lv_imul hx hb dX6_digest_91 ?_
                        refine lv_bipush (v := 6) hx hb dX6_digest_92 (by decide) ?_
                        refine lv_iadd hx hb dX6_digest_94 ?_
                        refine lv_icmp_ge (tgt := 138) hx hb dX6_digest_95 (by decide) (fun c95 => ?_) (fun c95 => ?_)
                        · have n95 := (o_nle (a := (6 * k2) + 6) (b := 6 * k2 + k4) (o_nadd (o_nmul (by decide) rfl) (by decide)) rfl (by omega) (by omega)).mp c95
                          refine lv_iinc (v := nI (k2 + 1)) (lv' := [(3, .int (nI (k2 + 1))), (0, .ref (G.2.1 0)), (1, .long (mS2 α k2 (mS1 α (su γ 41 0 0 0) nO nH k2 (mD2 α (su γ 41 0 0 0) nO nH (mD1 α (su γ 41 0 0 0) nS nO k) k2) k3) k4)), (4, .int (nI (6 * k2 + k4)))]) hx hb dX6_digest_138 hl (k := 1) rfl (nI_1 k2) (by decide) rfl (fun ls hl => ?_)
                          refine lv_goto (tgt := 38) hx hb dX6_digest_141 (by decide) ?_
                          refine o_widen (k := 8) (n := 64) (by omega) (by omega) ?_
                          exact ih38 (k2 + 1) (by omega) _ (by subst hk52; subst hk86; rfl) _ (rfl) _ (rfl) _ _ hP hS ls (lv_sub hl [1, 2, 0] rfl)
                        · have n95 := (mt (o_nle (a := (6 * k2) + 6) (b := 6 * k2 + k4) (o_nadd (o_nmul (by decide) rfl) (by decide)) rfl (by omega) (by omega)).mpr) c95; omega
                      | succ d86 ih86 =>
                        intro k4 hk86 x86_1 e86_1 x86_4 e86_4 τ86 eτ86 H locs hP hS ls hl
                        subst e86_1
                        subst e86_4
                        subst eτ86
                        have hj86 : k4 < 6 := by omega
                        refine lv_iload hx hb dX6_digest_86 (lv_at hl 3 rfl) ?_
                        refine lv_bipush (v := 6) hx hb dX6_digest_88 (by decide) ?_
                        refine lv_iload_n hx hb dX6_digest_90 rfl (lv_at hl 1 rfl) ?_
                        refine lv_imul hx hb dX6_digest_91 ?_
                        refine lv_bipush (v := 6) hx hb dX6_digest_92 (by decide) ?_
                        refine lv_iadd hx hb dX6_digest_94 ?_
                        refine lv_icmp_ge (tgt := 138) hx hb dX6_digest_95 (by decide) (fun c95 => ?_) (fun c95 => ?_)
                        · have n95 := (o_nle (a := (6 * k2) + 6) (b := 6 * k2 + k4) (o_nadd (o_nmul (by decide) rfl) (by decide)) rfl (by omega) (by omega)).mp c95; omega
                        · have n95 := (mt (o_nle (a := (6 * k2) + 6) (b := 6 * k2 + k4) (o_nadd (o_nmul (by decide) rfl) (by decide)) rfl (by omega) (by omega)).mpr) c95
                          refine lv_lload_n hx hb dX6_digest_98 rfl (lv_at hl 2 rfl) ?_
                          refine lv_ldc2 hx hb hown (hts (.constantLong RX6 193 (31)) (List.mem_of_getElem? (i := 3) rfl)) dX6_digest_99 ?_
                          refine lv_lmul hx hb dX6_digest_102 ?_
                          refine lv_aload_n hx hb dX6_digest_103 rfl (lv_at hl 0 rfl) ?_
                          refine va_get (D := G.1) (ci := 8) (v := .ref (ms G 0 0)) (C := RX6) (T := TX6) (N := 6) hx hb hts (fun w9 h9 => List.mem_cons_of_mem _ (List.mem_append_left _ (List.mem_append_right _ (h9)))) hown hK hP (0) (mw_M G (z3 α β (su γ 41 0 0 0))) rfl 4 (by decide) (hts (.fieldLink RX6 21 "OrganCensusModel" "s" "LOrganCensusModel$State;") (List.mem_of_getElem? (i := 4) rfl)) (fun _ h9 => h9) rfl dX6_digest_104 ?_
                          refine va_getN (D := G.1) (ci := 7) (v := .ref (ms G 0 2)) (C := RX5) (T := TX5) (N := 21) hx hb hts (fun w9 h9 => List.mem_cons_of_mem _ (List.mem_append_right _ (h9))) hown hK hP (3 + 18 * 0 + (0)) (mv_S G (z3 α β (su γ 41 0 0 0)) (show 0 < 2 by decide)) rfl 3 (by decide) (va_Nw.use rfl (hN.1 (RX6, 53, RX5, "taste", "[I", RX6) (List.mem_of_getElem? (i := 3) rfl))) (fun _ h9 => h9) rfl dX6_digest_107 ?_
                          refine lv_iload hx hb dX6_digest_110 (lv_at hl 3 rfl) ?_
                          refine o_iald (k := 6 * k2 + k4) hx hb hK hP (3 + 18 * 0 + (2)) 0 (mv_A2 G (z3 α β (su γ 41 0 0 0)) (show 0 < 2 by decide)) rfl rfl (by omega) (by decide) dX6_digest_112 ?_
                          refine lv_i2l (v := (α 2 0 (6 * k2 + k4)).toInt64) hx hb dX6_digest_113 rfl ?_
                          refine lv_ladd hx hb dX6_digest_114 ?_
                          refine lv_ldc2 hx hb hown (hts (.constantLong RX6 193 (31)) (List.mem_of_getElem? (i := 3) rfl)) dX6_digest_115 ?_
                          refine lv_lmul hx hb dX6_digest_118 ?_
                          refine lv_aload_n hx hb dX6_digest_119 rfl (lv_at hl 0 rfl) ?_
                          refine va_get (D := G.1) (ci := 8) (v := .ref (ms G 0 0)) (C := RX6) (T := TX6) (N := 6) hx hb hts (fun w9 h9 => List.mem_cons_of_mem _ (List.mem_append_left _ (List.mem_append_right _ (h9)))) hown hK hP (0) (mw_M G (z3 α β (su γ 41 0 0 0))) rfl 4 (by decide) (hts (.fieldLink RX6 21 "OrganCensusModel" "s" "LOrganCensusModel$State;") (List.mem_of_getElem? (i := 4) rfl)) (fun _ h9 => h9) rfl dX6_digest_120 ?_
                          refine va_getN (D := G.1) (ci := 7) (v := .ref (ms G 0 3)) (C := RX5) (T := TX5) (N := 21) hx hb hts (fun w9 h9 => List.mem_cons_of_mem _ (List.mem_append_right _ (h9))) hown hK hP (3 + 18 * 0 + (0)) (mv_S G (z3 α β (su γ 41 0 0 0)) (show 0 < 2 by decide)) rfl 4 (by decide) (va_Nw.use rfl (hN.1 (RX6, 79, RX5, "weary", "[I", RX6) (List.mem_of_getElem? (i := 7) rfl))) (fun _ h9 => h9) rfl dX6_digest_123 ?_
                          refine lv_iload hx hb dX6_digest_126 (lv_at hl 3 rfl) ?_
                          refine o_iald (k := 6 * k2 + k4) hx hb hK hP (3 + 18 * 0 + (3)) 0 (mv_A3 G (z3 α β (su γ 41 0 0 0)) (show 0 < 2 by decide)) rfl rfl (by omega) (by decide) dX6_digest_128 ?_
                          refine lv_i2l (v := (α 3 0 (6 * k2 + k4)).toInt64) hx hb dX6_digest_129 rfl ?_
                          refine lv_ladd hx hb dX6_digest_130 ?_
                          refine lv_lstore_n (lv' := [(1, .long (((((mS2 α k2 (mS1 α (su γ 41 0 0 0) nO nH k2 (mD2 α (su γ 41 0 0 0) nO nH (mD1 α (su γ 41 0 0 0) nS nO k) k2) k3) k4) * (31 : Int64)) + ((α 2 0 (6 * k2 + k4)).toInt64)) * (31 : Int64)) + ((α 3 0 (6 * k2 + k4)).toInt64))), (0, .ref (G.2.1 0)), (3, .int (nI k2)), (4, .int (nI (6 * k2 + k4)))]) hx hb dX6_digest_131 rfl hl (by decide) rfl (fun ls hl => ?_)
                          refine lv_iinc (v := nI ((6 * k2 + k4) + 1)) (lv' := [(4, .int (nI ((6 * k2 + k4) + 1))), (1, .long (((((mS2 α k2 (mS1 α (su γ 41 0 0 0) nO nH k2 (mD2 α (su γ 41 0 0 0) nO nH (mD1 α (su γ 41 0 0 0) nS nO k) k2) k3) k4) * (31 : Int64)) + ((α 2 0 (6 * k2 + k4)).toInt64)) * (31 : Int64)) + ((α 3 0 (6 * k2 + k4)).toInt64))), (0, .ref (G.2.1 0)), (3, .int (nI k2))]) hx hb dX6_digest_132 hl (k := 3) rfl (nI_1 (6 * k2 + k4)) (by decide) rfl (fun ls hl => ?_)
                          refine lv_goto (tgt := 86) hx hb dX6_digest_135 (by decide) ?_
                          refine o_widen (k := 8) (n := 64) (by omega) (by omega) ?_
                          exact ih86 (k4 + 1) (by omega) _ (rfl) _ (rfl) _ (rfl) _ _ hP hS ls (lv_sub hl [2, 3, 1, 0] rfl)
                    refine o_widen (k := 8) (n := 64) (by omega) (by omega) ?_
                    exact lp86 (6) 0 (by omega) _ (rfl) _ (o_nmul (by decide) rfl) _ (rfl) _ _ hP hS ls (lv_sub hl [1, 2, 3, 0] rfl)
                  · have n56 := (mt (o_nle (a := 8) (b := k3) (by decide) rfl (by omega) (by omega)).mpr) c56; omega
                | succ d52 ih52 =>
                  intro k3 hk52 x52_1 e52_1 x52_4 e52_4 τ52 eτ52 H locs hP hS ls hl
                  subst e52_1
                  subst e52_4
                  subst eτ52
                  have hj52 : k3 < 8 := by omega
                  refine lv_iload hx hb dX6_digest_52 (lv_at hl 3 rfl) ?_
                  refine lv_bipush (v := 8) hx hb dX6_digest_54 (by decide) ?_
                  refine lv_icmp_ge (tgt := 80) hx hb dX6_digest_56 (by decide) (fun c56 => ?_) (fun c56 => ?_)
                  · have n56 := (o_nle (a := 8) (b := k3) (by decide) rfl (by omega) (by omega)).mp c56; omega
                  · have n56 := (mt (o_nle (a := 8) (b := k3) (by decide) rfl (by omega) (by omega)).mpr) c56
                    refine lv_lload_n hx hb dX6_digest_59 rfl (lv_at hl 2 rfl) ?_
                    refine lv_ldc2 hx hb hown (hts (.constantLong RX6 193 (31)) (List.mem_of_getElem? (i := 3) rfl)) dX6_digest_60 ?_
                    refine lv_lmul hx hb dX6_digest_63 ?_
                    refine lv_aload_n hx hb dX6_digest_64 rfl (lv_at hl 0 rfl) ?_
                    refine lv_iload_n hx hb dX6_digest_65 rfl (lv_at hl 1 rfl) ?_
                    refine lv_iload hx hb dX6_digest_66 (lv_at hl 3 rfl) ?_
                    refine o_cVi (q0 := 0) (ci := 8) [.int (nI k2), .int (nI k3)] [.long ((mS1 α (su γ 41 0 0 0) nO nH k2 (mD2 α (su γ 41 0 0 0) nO nH (mD1 α (su γ 41 0 0 0) nS nO k) k2) k3) * (31 : Int64))] ⟨hx, hb, hml, hown, hts⟩ (m_X6_streetTold l G α β (su γ 41 0 0 0) nS nO nH hz k2 (nI k2) (rfl) (by omega) k3 (nI k3) (rfl) (by omega)) (cwV 2 hts gX6_digest_X6_streetTold rfl rfl rfl (by decide +kernel) ⟨Nat.le_of_ble_eq_true rfl, Nat.le_of_ble_eq_true rfl⟩) hK hN hP rfl rfl (mw_M G (z3 α β (su γ 41 0 0 0))) rfl hl.1 rfl (Nat.le_of_ble_eq_true rfl) dX6_digest_68 ⟨(show 8 ≤ 96 by omega), (show 64 ≤ 1032 by omega)⟩ ?_
                    refine lv_i2l (v := (qStT α (su γ 41 0 0 0) nO nH k2 k3).toInt64) hx hb dX6_digest_71 rfl ?_
                    refine lv_ladd hx hb dX6_digest_72 ?_
                    refine lv_lstore_n (lv' := [(1, .long (((mS1 α (su γ 41 0 0 0) nO nH k2 (mD2 α (su γ 41 0 0 0) nO nH (mD1 α (su γ 41 0 0 0) nS nO k) k2) k3) * (31 : Int64)) + ((qStT α (su γ 41 0 0 0) nO nH k2 k3).toInt64))), (0, .ref (G.2.1 0)), (3, .int (nI k2)), (4, .int (nI k3))]) hx hb dX6_digest_73 rfl hl (by decide) rfl (fun ls hl => ?_)
                    refine lv_iinc (v := nI (k3 + 1)) (lv' := [(4, .int (nI (k3 + 1))), (1, .long (((mS1 α (su γ 41 0 0 0) nO nH k2 (mD2 α (su γ 41 0 0 0) nO nH (mD1 α (su γ 41 0 0 0) nS nO k) k2) k3) * (31 : Int64)) + ((qStT α (su γ 41 0 0 0) nO nH k2 k3).toInt64))), (0, .ref (G.2.1 0)), (3, .int (nI k2))]) hx hb dX6_digest_74 hl (k := 3) rfl (nI_1 k3) (by decide) rfl (fun ls hl => ?_)
                    refine lv_goto (tgt := 52) hx hb dX6_digest_77 (by decide) ?_
                    refine o_widen (k := 8) (n := 64) (by omega) (by omega) ?_
                    exact ih52 (k3 + 1) (by omega) _ (rfl) _ (rfl) _ (rfl) _ _ hP hS ls (lv_sub hl [2, 3, 1, 0] rfl)
              refine o_widen (k := 8) (n := 64) (by omega) (by omega) ?_
              exact lp52 (8) 0 (by omega) _ (rfl) _ (rfl) _ (rfl) _ _ hP hS ls (lv_sub hl [1, 3, 2, 0] rfl)
        refine o_widen (k := 8) (n := 64) (by omega) (by omega) ?_
        exact lp38 (nS) 0 (by omega) _ (rfl) _ (rfl) _ (rfl) _ _ hP hS ls (lv_sub hl [1, 2, 0] rfl)
      · have n14 := (mt (o_nle (a := 8) (b := k) (by decide) rfl (by omega) (by omega)).mpr) c14; omega
    | succ d11 ih11 =>
      intro k hk11 x11_1 e11_1 x11_3 e11_3 τ11 eτ11 H locs hP hS ls hl
      subst e11_1
      subst e11_3
      subst eτ11
      have hj11 : k < 8 := by omega
      refine lv_iload_n hx hb dX6_digest_11 rfl (lv_at hl 2 rfl) ?_
      refine lv_bipush (v := 8) hx hb dX6_digest_12 (by decide) ?_
      refine lv_icmp_ge (tgt := 36) hx hb dX6_digest_14 (by decide) (fun c14 => ?_) (fun c14 => ?_)
      · have n14 := (o_nle (a := 8) (b := k) (by decide) rfl (by omega) (by omega)).mp c14; omega
      · have n14 := (mt (o_nle (a := 8) (b := k) (by decide) rfl (by omega) (by omega)).mpr) c14
        refine lv_lload_n hx hb dX6_digest_17 rfl (lv_at hl 1 rfl) ?_
        refine lv_ldc2 hx hb hown (hts (.constantLong RX6 193 (31)) (List.mem_of_getElem? (i := 3) rfl)) dX6_digest_18 ?_
        refine lv_lmul hx hb dX6_digest_21 ?_
        refine lv_aload_n hx hb dX6_digest_22 rfl (lv_at hl 0 rfl) ?_
        refine lv_iload_n hx hb dX6_digest_23 rfl (lv_at hl 2 rfl) ?_
        refine oN_cV (q0 := 0) (ci := 8) [.int (nI k)] [.long ((mD1 α (su γ 41 0 0 0) nS nO k) * (31 : Int64))] ⟨hx, hb, hml, hown, hts⟩ (m_X6_counted l G hI α β (su γ 41 0 0 0) sz nS nO nH hz k (nI k) (rfl) (by omega)) (cwV 1 hts gX6_digest_X6_counted rfl rfl rfl (by decide +kernel) ⟨Nat.le_of_ble_eq_true rfl, Nat.le_of_ble_eq_true rfl⟩) hK hN hP (Nat.le_trans hE hS.1) hS rfl rfl (mw_M G (z3 α β (su γ 41 0 0 0))) rfl hl.1 rfl (Nat.le_of_ble_eq_true rfl) dX6_digest_24 ⟨(show k + 1 ≤ 96 by omega), (show 8 * k + 8 ≤ 1032 by omega)⟩ (fun H locs hP hS => ?_)
        change W _ _ _ _ _ _ _ _ _ _ _ _ _ _ _ (F0 m 27 ls (.int (mCnt α (su γ 41 0 0 0) nS nO k) :: [.long ((mD1 α (su γ 41 0 0 0) nS nO k) * (31 : Int64))]))
        have hP : va_P G.1 vwCl (mw G (z3 α β (su γ 41 0 0 0))) H := hP
        refine lv_i2l (v := (mCnt α (su γ 41 0 0 0) nS nO k).toInt64) hx hb dX6_digest_27 rfl ?_
        refine lv_ladd hx hb dX6_digest_28 ?_
        refine lv_lstore_n (lv' := [(1, .long (((mD1 α (su γ 41 0 0 0) nS nO k) * (31 : Int64)) + ((mCnt α (su γ 41 0 0 0) nS nO k).toInt64))), (0, .ref (G.2.1 0)), (3, .int (nI k))]) hx hb dX6_digest_29 rfl hl (by decide) rfl (fun ls hl => ?_)
        refine lv_iinc (v := nI (k + 1)) (lv' := [(3, .int (nI (k + 1))), (1, .long (((mD1 α (su γ 41 0 0 0) nS nO k) * (31 : Int64)) + ((mCnt α (su γ 41 0 0 0) nS nO k).toInt64))), (0, .ref (G.2.1 0))]) hx hb dX6_digest_30 hl (k := 2) rfl (nI_1 k) (by decide) rfl (fun ls hl => ?_)
        refine lv_goto (tgt := 11) hx hb dX6_digest_33 (by decide) ?_
        refine o_widen (k := (k + 1)) (n := 8 * (k + 1)) (by omega) (by omega) ?_
        exact ih11 (k + 1) (by omega) _ (rfl) _ (rfl) _ (rfl) _ _ hP hS ls (lv_sub hl [2, 1, 0] rfl)
  refine o_widen (k := 0) (n := 8 * 0) (by omega) (by omega) ?_
  exact lp11 (8) 0 (by omega) _ (rfl) _ (rfl) _ (rfl) _ _ hP hS ls (lv_sub hl [2, 1, 0] rfl)
