set_option maxHeartbeats 4000000 in
set_option maxRecDepth 100000 in
theorem m_X3_complain (l : Launch) (G : oG) (Z : oZ) {t : Nat} (ht : t < 2) (hI : wl_I G.2.1 137) (τ : oT) (nS : Nat) (nO : Nat) (nH : Nat) (hz : oOK τ nS nO nH) (r : Nat) (ar : Int32) (er : ar = nI r) (hr6 : r < 6) (y : Int32) : Met l yX3_complain wsX3_complain ({ frames := 2, cells := 0, slots := 0, locals := 43 } : Room) (va_Pc [.ref (ta G t (0)), .int ar, .int y] (PW G (tw G Z t τ))) (oQ none (fun H9 => va_P G.1 vwCl (tw G Z t (oComplain τ nO r y)) H9) (oA G)) 0 0 (oA G) := by
  subst er
  refine o_body (cc := cX3_complain) (by decide +kernel) rfl (Nat.le_of_ble_eq_true rfl) ?_
  intro p e s m below meth c ls hx hb hml hr hlocks hown hts hP hK hN hl
  have hown : s.vm.findClass RX3 = some m.cls := hown
  have hl : lv_has ls 6 [(0, .ref (ta G t (0))), (1, .int (nI r)), (2, .int y)] := hl
  have hS : va_S (oA G) s.heap s.heap [] := va_S.rf
  obtain ⟨hz1, hz2, hz3, hz4, hz5, hz6, hz7⟩ := id hz
  refine lv_iconst (v := 0) hx hb dX3_complain_0 (by decide) ?_
  refine lv_istore_n (lv' := [(3, .int 0), (0, .ref (ta G t (0))), (1, .int (nI r)), (2, .int y)]) hx hb dX3_complain_1 rfl hl (by decide) rfl (fun ls hl => ?_)
  refine lv_iconst (v := 0) hx hb dX3_complain_2 (by decide) ?_
  refine lv_istore (lv' := [(4, .int 0), (3, .int 0), (0, .ref (ta G t (0))), (1, .int (nI r)), (2, .int y)]) hx hb dX3_complain_3 hl (by decide) rfl (fun ls hl => ?_)
  have lp5 : ∀ (d5 k : Nat), k + d5 = nO → ∀ x5_3 : Int32, x5_3 = (oLd τ (nI r) y k) → ∀ x5_4 : Int32, x5_4 = (nI k) → ∀ ls : Array Slot, lv_has ls 6 [(0, .ref (ta G t (0))), (1, .int (nI r)), (2, .int y), (3, .int x5_3), (4, .int x5_4)] → W p l e ({ frames := 2, cells := 0, slots := 0, locals := 43 } : Room) s m ([.ref (ta G t (0)), .int (nI r), .int y] : List Value).toArray below meth c s.heap [] 0 0 (MQ below (oQ none (fun H9 => va_P G.1 vwCl (tw G Z t (oComplain τ nO r y)) H9) (oA G)) ([.ref (ta G t (0)), .int (nI r), .int y] : List Value).toArray s 0 0 (oA G)) (F0 m 5 ls []) := by
    intro d5
    induction d5 with
    | zero =>
      intro k hk5 x5_3 e5_3 x5_4 e5_4 ls hl
      subst e5_3
      subst e5_4
      have hk5 : k = nO := by omega
      refine lv_iload hx hb dX3_complain_5 (lv_at hl 4 rfl) ?_
      refine lv_aload_n hx hb dX3_complain_7 rfl (lv_at hl 0 rfl) ?_
      refine va_get (D := G.1) (ci := 5) (v := .int (τ 18 0 1)) (C := RX3) (T := TX3) (N := 5) hx hb hts (fun w9 h9 => List.mem_cons_of_mem _ (List.mem_append_left _ (List.mem_append_right _ (h9)))) hown hK hP (1 + 67 * t + (0)) (tw_T G Z ht τ) rfl 3 (by decide) (hts (.fieldLink RX3 29 "OrganCensus$Town" "organCount" "I") (List.mem_of_getElem? (i := 1) rfl)) (fun _ h9 => h9) rfl dX3_complain_8 ?_
      refine lv_icmp_ge (tgt := 37) hx hb dX3_complain_11 (by decide) (fun c11 => ?_) (fun c11 => ?_)
      · have n11 := (o_nle (a := nO) (b := k) hz.2.2.1 rfl (by omega) (by omega)).mp c11
        refine lv_iconst (v := 0) hx hb dX3_complain_37 (by decide) ?_
        refine lv_istore (lv' := [(4, .int 0), (0, .ref (ta G t (0))), (1, .int (nI r)), (2, .int y), (3, .int (oLd τ (nI r) y k))]) hx hb dX3_complain_38 hl (by decide) rfl (fun ls hl => ?_)
        have lp40 : ∀ (d40 j : Nat), j + d40 = nO → ∀ x40_4 : Int32, x40_4 = (nI j) → ∀ (τ40 : oT), τ40 = (oCp τ r y (oLd τ (nI r) y k) j) → ∀ (H : Heap) (locs : List Loc), va_P G.1 vwCl (tw G Z t τ40) H → va_S (oA G) s.heap H locs → ∀ ls : Array Slot, lv_has ls 6 [(0, .ref (ta G t (0))), (1, .int (nI r)), (2, .int y), (3, .int (oLd τ (nI r) y k)), (4, .int x40_4)] → W p l e ({ frames := 2, cells := 0, slots := 0, locals := 43 } : Room) s m ([.ref (ta G t (0)), .int (nI r), .int y] : List Value).toArray below meth c H locs 0 0 (MQ below (oQ none (fun H9 => va_P G.1 vwCl (tw G Z t (oComplain τ nO r y)) H9) (oA G)) ([.ref (ta G t (0)), .int (nI r), .int y] : List Value).toArray s 0 0 (oA G)) (F0 m 40 ls []) := by
          intro d40
          induction d40 with
          | zero =>
            intro j hk40 x40_4 e40_4 τ40 eτ40 H locs hP hS ls hl
            subst e40_4
            subst eτ40
            have hz40 : oOK (oCp τ r y (oLd τ (nI r) y k) j) nS nO nH := hz.of (oCp_kp _ _ _ _ _)
            have hk40 : j = nO := by omega
            refine lv_iload hx hb dX3_complain_40 (lv_at hl 4 rfl) ?_
            refine lv_aload_n hx hb dX3_complain_42 rfl (lv_at hl 0 rfl) ?_
            refine va_get (D := G.1) (ci := 5) (v := .int ((oCp τ r y (oLd τ (nI r) y k) j) 18 0 1)) (C := RX3) (T := TX3) (N := 5) hx hb hts (fun w9 h9 => List.mem_cons_of_mem _ (List.mem_append_left _ (List.mem_append_right _ (h9)))) hown hK hP (1 + 67 * t + (0)) (tw_T G Z ht (oCp τ r y (oLd τ (nI r) y k) j)) rfl 3 (by decide) (hts (.fieldLink RX3 29 "OrganCensus$Town" "organCount" "I") (List.mem_of_getElem? (i := 1) rfl)) (fun _ h9 => h9) rfl dX3_complain_43 ?_
            refine lv_icmp_ge (tgt := 98) hx hb dX3_complain_46 (by decide) (fun c46 => ?_) (fun c46 => ?_)
            · have n46 := (o_nle (a := nO) (b := j) hz40.2.2.1 rfl (by omega) (by omega)).mp c46
              exact o_vretM hx hb hr hlocks hS dX3_complain_98 (by subst hk5; subst hk40; exact hP)
            · have n46 := (mt (o_nle (a := nO) (b := j) hz40.2.2.1 rfl (by omega) (by omega)).mpr) c46; omega
          | succ d40 ih40 =>
            intro j hk40 x40_4 e40_4 τ40 eτ40 H locs hP hS ls hl
            subst e40_4
            subst eτ40
            have hz40 : oOK (oCp τ r y (oLd τ (nI r) y k) j) nS nO nH := hz.of (oCp_kp _ _ _ _ _)
            have hj40 : j < nO := by omega
            refine lv_iload hx hb dX3_complain_40 (lv_at hl 4 rfl) ?_
            refine lv_aload_n hx hb dX3_complain_42 rfl (lv_at hl 0 rfl) ?_
            refine va_get (D := G.1) (ci := 5) (v := .int ((oCp τ r y (oLd τ (nI r) y k) j) 18 0 1)) (C := RX3) (T := TX3) (N := 5) hx hb hts (fun w9 h9 => List.mem_cons_of_mem _ (List.mem_append_left _ (List.mem_append_right _ (h9)))) hown hK hP (1 + 67 * t + (0)) (tw_T G Z ht (oCp τ r y (oLd τ (nI r) y k) j)) rfl 3 (by decide) (hts (.fieldLink RX3 29 "OrganCensus$Town" "organCount" "I") (List.mem_of_getElem? (i := 1) rfl)) (fun _ h9 => h9) rfl dX3_complain_43 ?_
            refine lv_icmp_ge (tgt := 98) hx hb dX3_complain_46 (by decide) (fun c46 => ?_) (fun c46 => ?_)
            · have n46 := (o_nle (a := nO) (b := j) hz40.2.2.1 rfl (by omega) (by omega)).mp c46; omega
            · have n46 := (mt (o_nle (a := nO) (b := j) hz40.2.2.1 rfl (by omega) (by omega)).mpr) c46
              refine lv_aload_n hx hb dX3_complain_49 rfl (lv_at hl 0 rfl) ?_
              refine va_get (D := G.1) (ci := 5) (v := .ref (ta G t (2))) (C := RX3) (T := TX3) (N := 5) hx hb hts (fun w9 h9 => List.mem_cons_of_mem _ (List.mem_append_left _ (List.mem_append_right _ (h9)))) hown hK hP (1 + 67 * t + (0)) (tw_T G Z ht (oCp τ r y (oLd τ (nI r) y k) j)) rfl 1 (by decide) (hts (.fieldLink RX3 19 "OrganCensus$Town" "organs" "[LOrganCensus$Organ;") (List.mem_of_getElem? (i := 2) rfl)) (fun _ h9 => h9) rfl dX3_complain_50 ?_
              refine lv_iload hx hb dX3_complain_53 (lv_at hl 4 rfl) ?_
              refine o_aald (k := j) (C := RX0) hx hb hK hP (1 + 67 * t + (2)) 2 (tw_OA G Z ht (oCp τ r y (oLd τ (nI r) y k) j)) rfl rfl (by omega) (by decide) rfl dX3_complain_55 ?_
              refine lv_iload_n hx hb dX3_complain_56 rfl (lv_at hl 1 rfl) ?_
              refine lv_iload_n hx hb dX3_complain_57 rfl (lv_at hl 2 rfl) ?_
              refine o_cVi (q0 := 1 + 67 * t + (27 + 5 * j)) (ci := 2) [.int (nI r), .int y] [] ⟨hx, hb, hml, hown, hts⟩ (m_X0_soundAt l G Z ht (oCp τ r y (oLd τ (nI r) y k) j) j (by omega) (nI r) y) (cwV 2 hts gX3_complain_X0_soundAt rfl rfl rfl (by decide +kernel) ⟨Nat.le_of_ble_eq_true rfl, Nat.le_of_ble_eq_true rfl⟩) hK hN hP rfl rfl (tw_O G Z ht (oCp τ r y (oLd τ (nI r) y k) j) (by omega)) rfl hl.1 rfl (Nat.le_of_ble_eq_true rfl) dX3_complain_58 ⟨Nat.zero_le _, Nat.zero_le _⟩ ?_
              refine lv_istore (lv' := [(5, .int (oSnd (oCp τ r y (oLd τ (nI r) y k) j) j (nI r) y)), (0, .ref (ta G t (0))), (1, .int (nI r)), (2, .int y), (3, .int (oLd τ (nI r) y k)), (4, .int (nI j))]) hx hb dX3_complain_61 hl (by decide) rfl (fun ls hl => ?_)
              refine lv_iload hx hb dX3_complain_63 (lv_at hl 0 rfl) ?_
              refine lv_if_le (tgt := 92) hx hb dX3_complain_65 (by decide) (fun c65 => ?_) (fun c65 => ?_)
              · refine lv_iinc (v := nI (j + 1)) (lv' := [(4, .int (nI (j + 1))), (5, .int (oSnd (oCp τ r y (oLd τ (nI r) y k) j) j (nI r) y)), (0, .ref (ta G t (0))), (1, .int (nI r)), (2, .int y), (3, .int (oLd τ (nI r) y k))]) hx hb dX3_complain_92 hl (k := 5) rfl (nI_1 j) (by decide) rfl (fun ls hl => ?_)
                refine lv_goto (tgt := 40) hx hb dX3_complain_95 (by decide) ?_
                exact ih40 (j + 1) (by omega) _ (rfl) _ (by simp [oCp, c11, c46, c65]) _ _ hP hS ls (lv_sub hl [2, 3, 4, 5, 0] rfl)
              · refine lv_iload hx hb dX3_complain_68 (lv_at hl 0 rfl) ?_
                refine lv_iload_n hx hb dX3_complain_70 rfl (lv_at hl 4 rfl) ?_
                refine lv_iconst (v := 1) hx hb dX3_complain_71 (by decide) ?_
                refine lv_isub hx hb dX3_complain_72 ?_
                refine lv_icmp_lt (tgt := 92) hx hb dX3_complain_73 (by decide) (fun c73 => ?_) (fun c73 => ?_)
                · refine lv_iinc (v := nI (j + 1)) (lv' := [(4, .int (nI (j + 1))), (5, .int (oSnd (oCp τ r y (oLd τ (nI r) y k) j) j (nI r) y)), (0, .ref (ta G t (0))), (1, .int (nI r)), (2, .int y), (3, .int (oLd τ (nI r) y k))]) hx hb dX3_complain_92 hl (k := 5) rfl (nI_1 j) (by decide) rfl (fun ls hl => ?_)
                  refine lv_goto (tgt := 40) hx hb dX3_complain_95 (by decide) ?_
                  exact ih40 (j + 1) (by omega) _ (rfl) _ (by simp [oCp, c11, c46, c65, c73]) _ _ hP hS ls (lv_sub hl [2, 3, 4, 5, 0] rfl)
                · refine lv_aload_n hx hb dX3_complain_76 rfl (lv_at hl 1 rfl) ?_
                  refine va_get (D := G.1) (ci := 5) (v := .ref (ta G t (2))) (C := RX3) (T := TX3) (N := 5) hx hb hts (fun w9 h9 => List.mem_cons_of_mem _ (List.mem_append_left _ (List.mem_append_right _ (h9)))) hown hK hP (1 + 67 * t + (0)) (tw_T G Z ht (oCp τ r y (oLd τ (nI r) y k) j)) rfl 1 (by decide) (hts (.fieldLink RX3 19 "OrganCensus$Town" "organs" "[LOrganCensus$Organ;") (List.mem_of_getElem? (i := 2) rfl)) (fun _ h9 => h9) rfl dX3_complain_77 ?_
                  refine lv_iload hx hb dX3_complain_80 (lv_at hl 5 rfl) ?_
                  refine o_aald (k := j) (C := RX0) hx hb hK hP (1 + 67 * t + (2)) 2 (tw_OA G Z ht (oCp τ r y (oLd τ (nI r) y k) j)) rfl rfl (by omega) (by decide) rfl dX3_complain_82 ?_
                  refine va_get (D := G.1) (ci := 2) (v := .ref (ta G t (30 + 5 * j))) (C := RX0) (T := TX0) (N := 12) hx hb hts (fun w9 h9 => List.mem_cons_of_mem _ (List.mem_append_right _ (h9))) hown hK hP (1 + 67 * t + (27 + 5 * j)) (tw_O G Z ht (oCp τ r y (oLd τ (nI r) y k) j) (by omega)) rfl 2 (by decide) (hts (.fieldLink RX3 126 "OrganCensus$Organ" "complaints" "[I") (List.mem_of_getElem? (i := 7) rfl)) (fun _ h9 => h9) rfl dX3_complain_83 ?_
                  refine lv_iload_n hx hb dX3_complain_86 rfl (lv_at hl 2 rfl) ?_
                  refine lv_dup2_11 hx hb dX3_complain_87 rfl rfl ?_
                  refine o_iald (k := r) hx hb hK hP (1 + 67 * t + (30 + 5 * j)) 0 (tw_Oc G Z ht (oCp τ r y (oLd τ (nI r) y k) j) (by omega)) rfl rfl (by omega) (by decide) dX3_complain_88 ?_
                  refine lv_iconst (v := 1) hx hb dX3_complain_89 (by decide) ?_
                  refine lv_iadd hx hb dX3_complain_90 ?_
                  refine o_iast (k := r) hx hb hK hP (tw_D G Z t _ hI) hS (1 + 67 * t + (30 + 5 * j)) 0 (tw_Oc G Z ht (oCp τ r y (oLd τ (nI r) y k) j) (by omega)) rfl rfl (by omega) (by decide) dX3_complain_91 (fun H locs hP hD hS => ?_)
                  have hP : va_P G.1 vwCl (tw G Z t (su (oCp τ r y (oLd τ (nI r) y k) j) 8 j r (((oCp τ r y (oLd τ (nI r) y k) j) 8 j r) + 1))) H := by rw [← tw_uO8 G Z ht (oCp τ r y (oLd τ (nI r) y k) j) (by omega) r (((oCp τ r y (oLd τ (nI r) y k) j) 8 j r) + 1)]; exact hP
                  clear hD
                  refine lv_iinc (v := nI (j + 1)) (lv' := [(4, .int (nI (j + 1))), (5, .int (oSnd (oCp τ r y (oLd τ (nI r) y k) j) j (nI r) y)), (0, .ref (ta G t (0))), (1, .int (nI r)), (2, .int y), (3, .int (oLd τ (nI r) y k))]) hx hb dX3_complain_92 hl (k := 5) rfl (nI_1 j) (by decide) rfl (fun ls hl => ?_)
                  refine lv_goto (tgt := 40) hx hb dX3_complain_95 (by decide) ?_
                  exact ih40 (j + 1) (by omega) _ (rfl) _ (by simp [oCp, c11, c46, c65, c73]) _ _ hP hS ls (lv_sub hl [2, 3, 4, 5, 0] rfl)
        exact lp40 (nO) 0 (by omega) _ (rfl) _ (rfl) _ _ hP hS ls (lv_sub hl [1, 2, 3, 4, 0] rfl)
      · have n11 := (mt (o_nle (a := nO) (b := k) hz.2.2.1 rfl (by omega) (by omega)).mpr) c11; omega
    | succ d5 ih5 =>
      intro k hk5 x5_3 e5_3 x5_4 e5_4 ls hl
      subst e5_3
      subst e5_4
      have hj5 : k < nO := by omega
      refine lv_iload hx hb dX3_complain_5 (lv_at hl 4 rfl) ?_
      refine lv_aload_n hx hb dX3_complain_7 rfl (lv_at hl 0 rfl) ?_
      refine va_get (D := G.1) (ci := 5) (v := .int (τ 18 0 1)) (C := RX3) (T := TX3) (N := 5) hx hb hts (fun w9 h9 => List.mem_cons_of_mem _ (List.mem_append_left _ (List.mem_append_right _ (h9)))) hown hK hP (1 + 67 * t + (0)) (tw_T G Z ht τ) rfl 3 (by decide) (hts (.fieldLink RX3 29 "OrganCensus$Town" "organCount" "I") (List.mem_of_getElem? (i := 1) rfl)) (fun _ h9 => h9) rfl dX3_complain_8 ?_
      refine lv_icmp_ge (tgt := 37) hx hb dX3_complain_11 (by decide) (fun c11 => ?_) (fun c11 => ?_)
      · have n11 := (o_nle (a := nO) (b := k) hz.2.2.1 rfl (by omega) (by omega)).mp c11; omega
      · have n11 := (mt (o_nle (a := nO) (b := k) hz.2.2.1 rfl (by omega) (by omega)).mpr) c11
        refine lv_iload_n hx hb dX3_complain_14 rfl (lv_at hl 3 rfl) ?_
        refine lv_aload_n hx hb dX3_complain_15 rfl (lv_at hl 0 rfl) ?_
        refine va_get (D := G.1) (ci := 5) (v := .ref (ta G t (2))) (C := RX3) (T := TX3) (N := 5) hx hb hts (fun w9 h9 => List.mem_cons_of_mem _ (List.mem_append_left _ (List.mem_append_right _ (h9)))) hown hK hP (1 + 67 * t + (0)) (tw_T G Z ht τ) rfl 1 (by decide) (hts (.fieldLink RX3 19 "OrganCensus$Town" "organs" "[LOrganCensus$Organ;") (List.mem_of_getElem? (i := 2) rfl)) (fun _ h9 => h9) rfl dX3_complain_16 ?_
        refine lv_iload hx hb dX3_complain_19 (lv_at hl 4 rfl) ?_
        refine o_aald (k := k) (C := RX0) hx hb hK hP (1 + 67 * t + (2)) 2 (tw_OA G Z ht τ) rfl rfl (by omega) (by decide) rfl dX3_complain_21 ?_
        refine lv_iload_n hx hb dX3_complain_22 rfl (lv_at hl 1 rfl) ?_
        refine lv_iload_n hx hb dX3_complain_23 rfl (lv_at hl 2 rfl) ?_
        refine o_cVi (q0 := 1 + 67 * t + (27 + 5 * k)) (ci := 2) [.int (nI r), .int y] [.int (oLd τ (nI r) y k)] ⟨hx, hb, hml, hown, hts⟩ (m_X0_soundAt l G Z ht τ k (by omega) (nI r) y) (cwV 2 hts gX3_complain_X0_soundAt rfl rfl rfl (by decide +kernel) ⟨Nat.le_of_ble_eq_true rfl, Nat.le_of_ble_eq_true rfl⟩) hK hN hP rfl rfl (tw_O G Z ht τ (by omega)) rfl hl.1 rfl (Nat.le_of_ble_eq_true rfl) dX3_complain_24 ⟨Nat.zero_le _, Nat.zero_le _⟩ ?_
        refine va_mmax (rest := []) hx hb (hml.trans hl.1.symm) hown (hts (.methodLink RX3 115 Lib.Math.max.name) (List.mem_of_getElem? (i := 3) rfl)) (hts (.static Lib.Math.max.name) (List.mem_of_getElem? (i := 4) rfl)) (hts (.initialized "java/lang/Math") (List.mem_of_getElem? (i := 5) rfl)) (hts (.code Lib.Math.max.name Lib.Math.max.code 2 (some .int)) (List.mem_of_getElem? (i := 6) rfl)) (Nat.le_of_ble_eq_true rfl) (Nat.le_of_ble_eq_true rfl) (Nat.zero_le _) (Nat.zero_le _) dX3_complain_27 ?_
        change W _ _ _ _ _ _ _ _ _ _ _ _ _ _ _ (F0 m 30 ls (.int (o_max (oLd τ (nI r) y k) (oSnd τ k (nI r) y)) :: _))
        refine lv_istore_n (lv' := [(3, .int (o_max (oLd τ (nI r) y k) (oSnd τ k (nI r) y))), (0, .ref (ta G t (0))), (1, .int (nI r)), (2, .int y), (4, .int (nI k))]) hx hb dX3_complain_30 rfl hl (by decide) rfl (fun ls hl => ?_)
        refine lv_iinc (v := nI (k + 1)) (lv' := [(4, .int (nI (k + 1))), (3, .int (o_max (oLd τ (nI r) y k) (oSnd τ k (nI r) y))), (0, .ref (ta G t (0))), (1, .int (nI r)), (2, .int y)]) hx hb dX3_complain_31 hl (k := 4) rfl (nI_1 k) (by decide) rfl (fun ls hl => ?_)
        refine lv_goto (tgt := 5) hx hb dX3_complain_34 (by decide) ?_
        exact ih5 (k + 1) (by omega) _ (rfl) _ (rfl) ls (lv_sub hl [2, 3, 4, 1, 0] rfl)
  exact lp5 (nO) 0 (by omega) _ (rfl) _ (rfl) ls (lv_sub hl [2, 3, 4, 1, 0] rfl)
set_option maxHeartbeats 4000000 in
set_option maxRecDepth 100000 in
theorem m_X3_giveCoins (l : Launch) (G : oG) (Z : oZ) {t : Nat} (ht : t < 2) (hI : wl_I G.2.1 137) (τ : oT) (nS : Nat) (nO : Nat) (nH : Nat) (hz : oOK τ nS nO nH) (r : Nat) (ar : Int32) (er : ar = nI r) (hr6 : r < 6) : Met l yX3_giveCoins wsX3_giveCoins ({ frames := 3, cells := 0, slots := 0, locals := 70 } : Room) (va_Pc [.ref (ta G t (0)), .int ar] (PW G (tw G Z t τ))) (oQ (some (.int ((oGive τ nO r nH).2))) (fun H9 => va_P G.1 vwCl (tw G Z t ((oGive τ nO r nH).1)) H9) (oA G)) 0 0 (oA G) := by
  subst er
  refine o_body (cc := cX3_giveCoins) (by decide +kernel) rfl (Nat.le_of_ble_eq_true rfl) ?_
  intro p e s m below meth c ls hx hb hml hr hlocks hown hts hP hK hN hl
  have hown : s.vm.findClass RX3 = some m.cls := hown
  have hl : lv_has ls 6 [(0, .ref (ta G t (0))), (1, .int (nI r))] := hl
  have hS : va_S (oA G) s.heap s.heap [] := va_S.rf
  obtain ⟨hz1, hz2, hz3, hz4, hz5, hz6, hz7⟩ := id hz
  refine lv_aload_n hx hb dX3_giveCoins_0 rfl (lv_at hl 0 rfl) ?_
  refine lv_iload_n hx hb dX3_giveCoins_1 rfl (lv_at hl 1 rfl) ?_
  refine o_cVi (q0 := 1 + 67 * t + (0)) (ci := 5) [.int (nI r)] [] ⟨hx, hb, hml, hown, hts⟩ (m_X3_standingIn l G Z ht τ nS nO nH hz (nI r)) (cwV 1 hts gX3_giveCoins_X3_standingIn rfl rfl rfl (by decide +kernel) ⟨Nat.le_of_ble_eq_true rfl, Nat.le_of_ble_eq_true rfl⟩) hK hN hP rfl rfl (tw_T G Z ht τ) rfl hl.1 rfl (Nat.le_of_ble_eq_true rfl) dX3_giveCoins_2 ⟨Nat.zero_le _, Nat.zero_le _⟩ ?_
  refine lv_if_ne (tgt := 10) hx hb dX3_giveCoins_5 (by decide) (fun c5 => ?_) (fun c5 => ?_)
  · refine lv_iconst (v := 0) hx hb dX3_giveCoins_10 (by decide) ?_
    refine lv_istore_n (lv' := [(2, .int 0), (0, .ref (ta G t (0))), (1, .int (nI r))]) hx hb dX3_giveCoins_11 rfl hl (by decide) rfl (fun ls hl => ?_)
    refine lv_iconst (v := 0) hx hb dX3_giveCoins_12 (by decide) ?_
    refine lv_istore_n (lv' := [(3, .int 0), (2, .int 0), (0, .ref (ta G t (0))), (1, .int (nI r))]) hx hb dX3_giveCoins_13 rfl hl (by decide) rfl (fun ls hl => ?_)
    have hp20 := (hz7 r (by omega)).2
    have lp14 : ∀ (d14 k : Nat), k + d14 = oNp τ r → ∀ x14_2 : Int32, x14_2 = ((oGv τ nO r nH k).2) → ∀ x14_3 : Int32, x14_3 = (nI k) → ∀ (τ14 : oT), τ14 = ((oGv τ nO r nH k).1) → ∀ (H : Heap) (locs : List Loc), va_P G.1 vwCl (tw G Z t τ14) H → va_S (oA G) s.heap H locs → ∀ ls : Array Slot, lv_has ls 6 [(0, .ref (ta G t (0))), (1, .int (nI r)), (2, .int x14_2), (3, .int x14_3)] → W p l e ({ frames := 3, cells := 0, slots := 0, locals := 70 } : Room) s m ([.ref (ta G t (0)), .int (nI r)] : List Value).toArray below meth c H locs 0 0 (MQ below (oQ (some (.int ((oGive τ nO r nH).2))) (fun H9 => va_P G.1 vwCl (tw G Z t ((oGive τ nO r nH).1)) H9) (oA G)) ([.ref (ta G t (0)), .int (nI r)] : List Value).toArray s 0 0 (oA G)) (F0 m 14 ls []) := by
      intro d14
      induction d14 with
      | zero =>
        intro k hk14 x14_2 e14_2 x14_3 e14_3 τ14 eτ14 H locs hP hS ls hl
        subst e14_2
        subst e14_3
        subst eτ14
        have hz14 : oOK ((oGv τ nO r nH k).1) nS nO nH := hz.of (oGv_kp _ _ _ _ _)
        have hk14 : k = oNp τ r := by omega
        have hnp : oNp (oGv τ nO r nH k).1 r = oNp τ r := by unfold oNp; rw [(oGv_kp τ nO r nH k).1]
        refine lv_iload_n hx hb dX3_giveCoins_14 rfl (lv_at hl 3 rfl) ?_
        refine lv_aload_n hx hb dX3_giveCoins_15 rfl (lv_at hl 0 rfl) ?_
        refine va_get (D := G.1) (ci := 5) (v := .ref (ta G t (1))) (C := RX3) (T := TX3) (N := 5) hx hb hts (fun w9 h9 => List.mem_cons_of_mem _ (List.mem_append_left _ (List.mem_append_left _ (List.mem_append_right _ (h9))))) hown hK hP (1 + 67 * t + (0)) (tw_T G Z ht ((oGv τ nO r nH k).1)) rfl 0 (by decide) (hts (.fieldLink RX3 11 "OrganCensus$Town" "streets" "[LOrganCensus$Street;") (List.mem_of_getElem? (i := 1) rfl)) (fun _ h9 => h9) rfl dX3_giveCoins_16 ?_
        refine lv_iload_n hx hb dX3_giveCoins_19 rfl (lv_at hl 1 rfl) ?_
        refine o_aald (k := r) (C := RX2) hx hb hK hP (1 + 67 * t + (1)) 1 (tw_SA G Z ht ((oGv τ nO r nH k).1)) rfl rfl (by omega) (by decide) rfl dX3_giveCoins_20 ?_
        refine va_get (D := G.1) (ci := 4) (v := .int (((oGv τ nO r nH k).1) 3 r 0)) (C := RX2) (T := TX2) (N := 6) hx hb hts (fun w9 h9 => List.mem_cons_of_mem _ (List.mem_append_left _ (List.mem_append_right _ (h9)))) hown hK hP (1 + 67 * t + (3 + 4 * r)) (tw_S G Z ht ((oGv τ nO r nH k).1) (by omega)) rfl 3 (by decide) (hts (.fieldLink RX3 42 "OrganCensus$Street" "pitches" "I") (List.mem_of_getElem? (i := 2) rfl)) (fun _ h9 => h9) rfl dX3_giveCoins_21 ?_
        refine lv_icmp_ge (tgt := 103) hx hb dX3_giveCoins_24 (by decide) (fun c24 => ?_) (fun c24 => ?_)
        · have n24 := (o_nle (a := oNp ((oGv τ nO r nH k).1) r) (b := k) (hz14.2.2.2.2.2.2 r (by omega)).1 rfl (by omega) (by omega)).mp c24
          refine lv_aload_n hx hb dX3_giveCoins_103 rfl (lv_at hl 0 rfl) ?_
          refine va_get (D := G.1) (ci := 5) (v := .ref (ta G t (1))) (C := RX3) (T := TX3) (N := 5) hx hb hts (fun w9 h9 => List.mem_cons_of_mem _ (List.mem_append_left _ (List.mem_append_left _ (List.mem_append_right _ (h9))))) hown hK hP (1 + 67 * t + (0)) (tw_T G Z ht ((oGv τ nO r nH k).1)) rfl 0 (by decide) (hts (.fieldLink RX3 11 "OrganCensus$Town" "streets" "[LOrganCensus$Street;") (List.mem_of_getElem? (i := 1) rfl)) (fun _ h9 => h9) rfl dX3_giveCoins_104 ?_
          refine lv_iload_n hx hb dX3_giveCoins_107 rfl (lv_at hl 1 rfl) ?_
          refine o_aald (k := r) (C := RX2) hx hb hK hP (1 + 67 * t + (1)) 1 (tw_SA G Z ht ((oGv τ nO r nH k).1)) rfl rfl (by omega) (by decide) rfl dX3_giveCoins_108 ?_
          refine lv_dup hx hb dX3_giveCoins_109 rfl ?_
          refine va_get (D := G.1) (ci := 4) (v := .int (((oGv τ nO r nH k).1) 4 r 0)) (C := RX2) (T := TX2) (N := 6) hx hb hts (fun w9 h9 => List.mem_cons_of_mem _ (List.mem_append_left _ (List.mem_append_right _ (h9)))) hown hK hP (1 + 67 * t + (3 + 4 * r)) (tw_S G Z ht ((oGv τ nO r nH k).1) (by omega)) rfl 4 (by decide) (hts (.fieldLink RX3 97 "OrganCensus$Street" "coins" "I") (List.mem_of_getElem? (i := 5) rfl)) (fun _ h9 => h9) rfl dX3_giveCoins_110 ?_
          refine lv_iload_n hx hb dX3_giveCoins_113 rfl (lv_at hl 2 rfl) ?_
          refine lv_iadd hx hb dX3_giveCoins_114 ?_
          refine va_put (D := G.1) (ci := 4) (v := .int ((((oGv τ nO r nH k).1) 4 r 0) + ((oGv τ nO r nH k).2))) (ty := .int) (C := RX2) (T := TX2) (N := 6) hx hb hts (fun w9 h9 => List.mem_cons_of_mem _ (List.mem_append_left _ (List.mem_append_right _ (h9)))) tyX2 tyX2_ok nmX2 hown hK hP (tw_D G Z t _ hI) hS (1 + 67 * t + (3 + 4 * r)) (tw_S G Z ht ((oGv τ nO r nH k).1) (by omega)) rfl 4 (by decide) (hts (.fieldLink RX3 97 "OrganCensus$Street" "coins" "I") (List.mem_of_getElem? (i := 5) rfl)) (fun _ h9 => h9) rfl (by decide +kernel) rfl rfl (Nat.le_of_ble_eq_true rfl) dX3_giveCoins_115 (fun H locs hP hD hS => ?_)
          have hP : va_P G.1 vwCl (tw G Z t (su ((oGv τ nO r nH k).1) 4 r 0 ((((oGv τ nO r nH k).1) 4 r 0) + ((oGv τ nO r nH k).2)))) H := by rw [← tw_uS4 G Z ht ((oGv τ nO r nH k).1) (by omega) ((((oGv τ nO r nH k).1) 4 r 0) + ((oGv τ nO r nH k).2))]; exact hP
          clear hD
          refine lv_iload_n hx hb dX3_giveCoins_118 rfl (lv_at hl 2 rfl) ?_
          exact o_iretM hx hb hr hlocks hS dX3_giveCoins_119 (by first | (subst hk14; simp only [oGive, c5, c24]; exact hP) | (simp only [oGive, c5, c24]; exact hP)) (by first | (subst hk14; simp [oGive, c5, c24]; done) | simp [oGive, c5, c24])
        · have n24 := (mt (o_nle (a := oNp ((oGv τ nO r nH k).1) r) (b := k) (hz14.2.2.2.2.2.2 r (by omega)).1 rfl (by omega) (by omega)).mpr) c24; omega
      | succ d14 ih14 =>
        intro k hk14 x14_2 e14_2 x14_3 e14_3 τ14 eτ14 H locs hP hS ls hl
        subst e14_2
        subst e14_3
        subst eτ14
        have hz14 : oOK ((oGv τ nO r nH k).1) nS nO nH := hz.of (oGv_kp _ _ _ _ _)
        have hj14 : k < oNp τ r := by omega
        have hnp : oNp (oGv τ nO r nH k).1 r = oNp τ r := by unfold oNp; rw [(oGv_kp τ nO r nH k).1]
        refine lv_iload_n hx hb dX3_giveCoins_14 rfl (lv_at hl 3 rfl) ?_
        refine lv_aload_n hx hb dX3_giveCoins_15 rfl (lv_at hl 0 rfl) ?_
        refine va_get (D := G.1) (ci := 5) (v := .ref (ta G t (1))) (C := RX3) (T := TX3) (N := 5) hx hb hts (fun w9 h9 => List.mem_cons_of_mem _ (List.mem_append_left _ (List.mem_append_left _ (List.mem_append_right _ (h9))))) hown hK hP (1 + 67 * t + (0)) (tw_T G Z ht ((oGv τ nO r nH k).1)) rfl 0 (by decide) (hts (.fieldLink RX3 11 "OrganCensus$Town" "streets" "[LOrganCensus$Street;") (List.mem_of_getElem? (i := 1) rfl)) (fun _ h9 => h9) rfl dX3_giveCoins_16 ?_
        refine lv_iload_n hx hb dX3_giveCoins_19 rfl (lv_at hl 1 rfl) ?_
        refine o_aald (k := r) (C := RX2) hx hb hK hP (1 + 67 * t + (1)) 1 (tw_SA G Z ht ((oGv τ nO r nH k).1)) rfl rfl (by omega) (by decide) rfl dX3_giveCoins_20 ?_
        refine va_get (D := G.1) (ci := 4) (v := .int (((oGv τ nO r nH k).1) 3 r 0)) (C := RX2) (T := TX2) (N := 6) hx hb hts (fun w9 h9 => List.mem_cons_of_mem _ (List.mem_append_left _ (List.mem_append_right _ (h9)))) hown hK hP (1 + 67 * t + (3 + 4 * r)) (tw_S G Z ht ((oGv τ nO r nH k).1) (by omega)) rfl 3 (by decide) (hts (.fieldLink RX3 42 "OrganCensus$Street" "pitches" "I") (List.mem_of_getElem? (i := 2) rfl)) (fun _ h9 => h9) rfl dX3_giveCoins_21 ?_
        refine lv_icmp_ge (tgt := 103) hx hb dX3_giveCoins_24 (by decide) (fun c24 => ?_) (fun c24 => ?_)
        · have n24 := (o_nle (a := oNp ((oGv τ nO r nH k).1) r) (b := k) (hz14.2.2.2.2.2.2 r (by omega)).1 rfl (by omega) (by omega)).mp c24; omega
        · have n24 := (mt (o_nle (a := oNp ((oGv τ nO r nH k).1) r) (b := k) (hz14.2.2.2.2.2.2 r (by omega)).1 rfl (by omega) (by omega)).mpr) c24
          refine lv_aload_n hx hb dX3_giveCoins_27 rfl (lv_at hl 0 rfl) ?_
          refine lv_iload_n hx hb dX3_giveCoins_28 rfl (lv_at hl 1 rfl) ?_
          refine lv_iload_n hx hb dX3_giveCoins_29 rfl (lv_at hl 3 rfl) ?_
          refine o_cVi (q0 := 1 + 67 * t + (0)) (ci := 5) [.int (nI r), .int (nI k)] [] ⟨hx, hb, hml, hown, hts⟩ (m_X3_whoIsHeard l G Z ht ((oGv τ nO r nH k).1) nS nO nH hz14 (nI r) (nI k)) (cwV 2 hts gX3_giveCoins_X3_whoIsHeard rfl rfl rfl (by decide +kernel) ⟨Nat.le_of_ble_eq_true rfl, Nat.le_of_ble_eq_true rfl⟩) hK hN hP rfl rfl (tw_T G Z ht ((oGv τ nO r nH k).1)) rfl hl.1 rfl (Nat.le_of_ble_eq_true rfl) dX3_giveCoins_30 ⟨Nat.zero_le _, Nat.zero_le _⟩ ?_
          refine lv_istore (lv' := [(4, .int (oHeard ((oGv τ nO r nH k).1) nO (nI r) (nI k))), (0, .ref (ta G t (0))), (1, .int (nI r)), (2, .int ((oGv τ nO r nH k).2)), (3, .int (nI k))]) hx hb dX3_giveCoins_33 hl (by decide) rfl (fun ls hl => ?_)
          refine lv_iload hx hb dX3_giveCoins_35 (lv_at hl 0 rfl) ?_
          refine lv_bipush (v := (-2)) hx hb dX3_giveCoins_37 (by decide) ?_
          refine lv_icmp_ne (tgt := 51) hx hb dX3_giveCoins_39 (by decide) (fun c39 => ?_) (fun c39 => ?_)
          · refine lv_iload hx hb dX3_giveCoins_51 (lv_at hl 0 rfl) ?_
            refine lv_if_lt (tgt := 97) hx hb dX3_giveCoins_53 (by decide) (fun c53 => ?_) (fun c53 => ?_)
            · refine lv_iinc (v := nI (k + 1)) (lv' := [(3, .int (nI (k + 1))), (4, .int (oHeard ((oGv τ nO r nH k).1) nO (nI r) (nI k))), (0, .ref (ta G t (0))), (1, .int (nI r)), (2, .int ((oGv τ nO r nH k).2))]) hx hb dX3_giveCoins_97 hl (k := 4) rfl (nI_1 k) (by decide) rfl (fun ls hl => ?_)
              refine lv_goto (tgt := 14) hx hb dX3_giveCoins_100 (by decide) ?_
              exact ih14 (k + 1) (by omega) _ (by simp [oGv, c5, c24, c39, c53]) _ (rfl) _ (by simp [oGv, c5, c24, c39, c53]) _ _ hP hS ls (lv_sub hl [2, 3, 4, 0] rfl)
            · have hin := oHeard_in (by omega) c53
              refine lv_aload_n hx hb dX3_giveCoins_56 rfl (lv_at hl 1 rfl) ?_
              refine lv_aload_n hx hb dX3_giveCoins_57 rfl (lv_at hl 1 rfl) ?_
              refine va_get (D := G.1) (ci := 5) (v := .ref (ta G t (2))) (C := RX3) (T := TX3) (N := 5) hx hb hts (fun w9 h9 => List.mem_cons_of_mem _ (List.mem_append_left _ (List.mem_append_left _ (List.mem_append_right _ (h9))))) hown hK hP (1 + 67 * t + (0)) (tw_T G Z ht ((oGv τ nO r nH k).1)) rfl 1 (by decide) (hts (.fieldLink RX3 19 "OrganCensus$Town" "organs" "[LOrganCensus$Organ;") (List.mem_of_getElem? (i := 3) rfl)) (fun _ h9 => h9) rfl dX3_giveCoins_58 ?_
              refine lv_iload hx hb dX3_giveCoins_61 (lv_at hl 0 rfl) ?_
              refine o_aald (k := (oHeard (oGv τ nO r nH k).1 nO (nI r) (nI k)).toNatClampNeg) (C := RX0) hx hb hK hP (1 + 67 * t + (2)) 2 (tw_OA G Z ht ((oGv τ nO r nH k).1)) rfl hin.1 (by omega) (by decide) rfl dX3_giveCoins_63 ?_
              refine lv_aload_n hx hb dX3_giveCoins_64 rfl (lv_at hl 1 rfl) ?_
              refine va_get (D := G.1) (ci := 5) (v := .ref (ta G t (1))) (C := RX3) (T := TX3) (N := 5) hx hb hts (fun w9 h9 => List.mem_cons_of_mem _ (List.mem_append_left _ (List.mem_append_left _ (List.mem_append_right _ (h9))))) hown hK hP (1 + 67 * t + (0)) (tw_T G Z ht ((oGv τ nO r nH k).1)) rfl 0 (by decide) (hts (.fieldLink RX3 11 "OrganCensus$Town" "streets" "[LOrganCensus$Street;") (List.mem_of_getElem? (i := 1) rfl)) (fun _ h9 => h9) rfl dX3_giveCoins_65 ?_
              refine lv_iload_n hx hb dX3_giveCoins_68 rfl (lv_at hl 2 rfl) ?_
              refine o_aald (k := r) (C := RX2) hx hb hK hP (1 + 67 * t + (1)) 1 (tw_SA G Z ht ((oGv τ nO r nH k).1)) rfl rfl (by omega) (by decide) rfl dX3_giveCoins_69 ?_
              refine o_cVi (q0 := 1 + 67 * t + (0)) (ci := 5) [.ref (ta G t (27 + 5 * ((oHeard (oGv τ nO r nH k).1 nO (nI r) (nI k)).toNatClampNeg))), .ref (ta G t (3 + 4 * r))] [] ⟨hx, hb, hml, hown, hts⟩ (m_X3_coinsFor l G Z ht ((oGv τ nO r nH k).1) nS nO nH hz14 ((oHeard (oGv τ nO r nH k).1 nO (nI r) (nI k)).toNatClampNeg) (by omega) r (by omega)) (cwV 2 hts gX3_giveCoins_X3_coinsFor rfl rfl rfl (by decide +kernel) ⟨Nat.le_of_ble_eq_true rfl, Nat.le_of_ble_eq_true rfl⟩) hK hN hP rfl rfl (tw_T G Z ht ((oGv τ nO r nH k).1)) rfl hl.1 rfl (Nat.le_of_ble_eq_true rfl) dX3_giveCoins_70 ⟨Nat.zero_le _, Nat.zero_le _⟩ ?_
              refine lv_istore (lv' := [(5, .int (oCoin ((oGv τ nO r nH k).1) ((oHeard (oGv τ nO r nH k).1 nO (nI r) (nI k)).toNatClampNeg) r nH)), (4, .int (oHeard ((oGv τ nO r nH k).1) nO (nI r) (nI k))), (0, .ref (ta G t (0))), (1, .int (nI r)), (2, .int ((oGv τ nO r nH k).2)), (3, .int (nI k))]) hx hb dX3_giveCoins_73 hl (by decide) rfl (fun ls hl => ?_)
              refine lv_aload_n hx hb dX3_giveCoins_75 rfl (lv_at hl 2 rfl) ?_
              refine va_get (D := G.1) (ci := 5) (v := .ref (ta G t (2))) (C := RX3) (T := TX3) (N := 5) hx hb hts (fun w9 h9 => List.mem_cons_of_mem _ (List.mem_append_left _ (List.mem_append_left _ (List.mem_append_right _ (h9))))) hown hK hP (1 + 67 * t + (0)) (tw_T G Z ht ((oGv τ nO r nH k).1)) rfl 1 (by decide) (hts (.fieldLink RX3 19 "OrganCensus$Town" "organs" "[LOrganCensus$Organ;") (List.mem_of_getElem? (i := 3) rfl)) (fun _ h9 => h9) rfl dX3_giveCoins_76 ?_
              refine lv_iload hx hb dX3_giveCoins_79 (lv_at hl 1 rfl) ?_
              refine o_aald (k := (oHeard (oGv τ nO r nH k).1 nO (nI r) (nI k)).toNatClampNeg) (C := RX0) hx hb hK hP (1 + 67 * t + (2)) 2 (tw_OA G Z ht ((oGv τ nO r nH k).1)) rfl hin.1 (by omega) (by decide) rfl dX3_giveCoins_81 ?_
              refine lv_dup hx hb dX3_giveCoins_82 rfl ?_
              refine va_get (D := G.1) (ci := 2) (v := .int (((oGv τ nO r nH k).1) 14 ((oHeard (oGv τ nO r nH k).1 nO (nI r) (nI k)).toNatClampNeg) 0)) (C := RX0) (T := TX0) (N := 12) hx hb hts (fun w9 h9 => List.mem_cons_of_mem _ (List.mem_append_right _ (h9))) hown hK hP (1 + 67 * t + (27 + 5 * ((oHeard (oGv τ nO r nH k).1 nO (nI r) (nI k)).toNatClampNeg))) (tw_O G Z ht ((oGv τ nO r nH k).1) (by omega)) rfl 8 (by decide) (hts (.fieldLink RX3 60 "OrganCensus$Organ" "coins" "I") (List.mem_of_getElem? (i := 4) rfl)) (fun _ h9 => h9) rfl dX3_giveCoins_83 ?_
              refine lv_iload hx hb dX3_giveCoins_86 (lv_at hl 0 rfl) ?_
              refine lv_iadd hx hb dX3_giveCoins_88 ?_
              refine va_put (D := G.1) (ci := 2) (v := .int ((((oGv τ nO r nH k).1) 14 ((oHeard (oGv τ nO r nH k).1 nO (nI r) (nI k)).toNatClampNeg) 0) + (oCoin ((oGv τ nO r nH k).1) ((oHeard (oGv τ nO r nH k).1 nO (nI r) (nI k)).toNatClampNeg) r nH))) (ty := .int) (C := RX0) (T := TX0) (N := 12) hx hb hts (fun w9 h9 => List.mem_cons_of_mem _ (List.mem_append_right _ (h9))) tyX0 tyX0_ok nmX0 hown hK hP (tw_D G Z t _ hI) hS (1 + 67 * t + (27 + 5 * ((oHeard (oGv τ nO r nH k).1 nO (nI r) (nI k)).toNatClampNeg))) (tw_O G Z ht ((oGv τ nO r nH k).1) (by omega)) rfl 8 (by decide) (hts (.fieldLink RX3 60 "OrganCensus$Organ" "coins" "I") (List.mem_of_getElem? (i := 4) rfl)) (fun _ h9 => h9) rfl (by decide +kernel) rfl rfl (Nat.le_of_ble_eq_true rfl) dX3_giveCoins_89 (fun H locs hP hD hS => ?_)
              have hP : va_P G.1 vwCl (tw G Z t (su ((oGv τ nO r nH k).1) 14 ((oHeard (oGv τ nO r nH k).1 nO (nI r) (nI k)).toNatClampNeg) 0 ((((oGv τ nO r nH k).1) 14 ((oHeard (oGv τ nO r nH k).1 nO (nI r) (nI k)).toNatClampNeg) 0) + (oCoin ((oGv τ nO r nH k).1) ((oHeard (oGv τ nO r nH k).1 nO (nI r) (nI k)).toNatClampNeg) r nH)))) H := by rw [← tw_uO14 G Z ht ((oGv τ nO r nH k).1) (by omega) ((((oGv τ nO r nH k).1) 14 ((oHeard (oGv τ nO r nH k).1 nO (nI r) (nI k)).toNatClampNeg) 0) + (oCoin ((oGv τ nO r nH k).1) ((oHeard (oGv τ nO r nH k).1 nO (nI r) (nI k)).toNatClampNeg) r nH))]; exact hP
              clear hD
              refine lv_iload_n hx hb dX3_giveCoins_92 rfl (lv_at hl 4 rfl) ?_
              refine lv_iload hx hb dX3_giveCoins_93 (lv_at hl 0 rfl) ?_
              refine lv_iadd hx hb dX3_giveCoins_95 ?_
              refine lv_istore_n (lv' := [(2, .int (((oGv τ nO r nH k).2) + (oCoin ((oGv τ nO r nH k).1) ((oHeard (oGv τ nO r nH k).1 nO (nI r) (nI k)).toNatClampNeg) r nH))), (5, .int (oCoin ((oGv τ nO r nH k).1) ((oHeard (oGv τ nO r nH k).1 nO (nI r) (nI k)).toNatClampNeg) r nH)), (4, .int (oHeard ((oGv τ nO r nH k).1) nO (nI r) (nI k))), (0, .ref (ta G t (0))), (1, .int (nI r)), (3, .int (nI k))]) hx hb dX3_giveCoins_96 rfl hl (by decide) rfl (fun ls hl => ?_)
              refine lv_iinc (v := nI (k + 1)) (lv' := [(3, .int (nI (k + 1))), (2, .int (((oGv τ nO r nH k).2) + (oCoin ((oGv τ nO r nH k).1) ((oHeard (oGv τ nO r nH k).1 nO (nI r) (nI k)).toNatClampNeg) r nH))), (5, .int (oCoin ((oGv τ nO r nH k).1) ((oHeard (oGv τ nO r nH k).1 nO (nI r) (nI k)).toNatClampNeg) r nH)), (4, .int (oHeard ((oGv τ nO r nH k).1) nO (nI r) (nI k))), (0, .ref (ta G t (0))), (1, .int (nI r))]) hx hb dX3_giveCoins_97 hl (k := 5) rfl (nI_1 k) (by decide) rfl (fun ls hl => ?_)
              refine lv_goto (tgt := 14) hx hb dX3_giveCoins_100 (by decide) ?_
              exact ih14 (k + 1) (by omega) _ (by simp [oGv, c5, c24, c39, c53]) _ (rfl) _ (by simp [oGv, c5, c24, c39, c53]) _ _ hP hS ls (lv_sub hl [4, 5, 1, 0] rfl)
          · refine lv_aload_n hx hb dX3_giveCoins_42 rfl (lv_at hl 1 rfl) ?_
            refine lv_iload_n hx hb dX3_giveCoins_43 rfl (lv_at hl 2 rfl) ?_
            refine lv_iload_n hx hb dX3_giveCoins_44 rfl (lv_at hl 4 rfl) ?_
            refine o_cVmv (q0 := 1 + 67 * t + (0)) (ci := 5) [.int (nI r), .int (nI k)] [] ⟨hx, hb, hml, hown, hts⟩ (m_X3_complain l G Z ht hI ((oGv τ nO r nH k).1) nS nO nH hz14 r (nI r) (rfl) (by omega) (nI k)) (cwV 2 hts gX3_giveCoins_X3_complain rfl rfl rfl (by decide +kernel) ⟨Nat.le_of_ble_eq_true rfl, Nat.le_of_ble_eq_true rfl⟩) hK hN hP hS rfl rfl (tw_T G Z ht ((oGv τ nO r nH k).1)) rfl hl.1 rfl (Nat.le_of_ble_eq_true rfl) dX3_giveCoins_45 ⟨Nat.zero_le _, Nat.zero_le _⟩ (fun H locs hP hS => ?_)
            refine lv_goto (tgt := 97) hx hb dX3_giveCoins_48 (by decide) ?_
            refine lv_iinc (v := nI (k + 1)) (lv' := [(3, .int (nI (k + 1))), (4, .int (oHeard ((oGv τ nO r nH k).1) nO (nI r) (nI k))), (0, .ref (ta G t (0))), (1, .int (nI r)), (2, .int ((oGv τ nO r nH k).2))]) hx hb dX3_giveCoins_97 hl (k := 4) rfl (nI_1 k) (by decide) rfl (fun ls hl => ?_)
            refine lv_goto (tgt := 14) hx hb dX3_giveCoins_100 (by decide) ?_
            exact ih14 (k + 1) (by omega) _ (by simp [oGv, c5, c24, c39]) _ (rfl) _ (by simp [oGv, c5, c24, c39]) _ _ hP hS ls (lv_sub hl [2, 3, 4, 0] rfl)
    exact lp14 (oNp τ r) 0 (by omega) _ (rfl) _ (rfl) _ (rfl) _ _ hP hS ls (lv_sub hl [2, 3, 1, 0] rfl)
  · refine lv_iconst (v := 0) hx hb dX3_giveCoins_8 (by decide) ?_
    exact o_iretM hx hb hr hlocks hS dX3_giveCoins_9 (by first | (subst hk14; simp only [oGive, c5]; exact hP) | (simp only [oGive, c5]; exact hP)) (by first | (subst hk14; simp [oGive, c5]; done) | simp [oGive, c5])
set_option maxHeartbeats 4000000 in
set_option maxRecDepth 100000 in
theorem m_X3_tireEars (l : Launch) (G : oG) (Z : oZ) {t : Nat} (ht : t < 2) (hI : wl_I G.2.1 137) (τ : oT) (nS : Nat) (nO : Nat) (nH : Nat) (hz : oOK τ nS nO nH) (r : Nat) (ar : Int32) (er : ar = nI r) (hr6 : r < 6) : Met l yX3_tireEars wsX3_tireEars ({ frames := 2, cells := 0, slots := 0, locals := 44 } : Room) (va_Pc [.ref (ta G t (0)), .int ar] (PW G (tw G Z t τ))) (oQ none (fun H9 => va_P G.1 vwCl (tw G Z t (oTe τ nO r 6)) H9) (oA G)) 0 0 (oA G) := by
  subst er
  refine o_body (cc := cX3_tireEars) (by decide +kernel) rfl (Nat.le_of_ble_eq_true rfl) ?_
  intro p e s m below meth c ls hx hb hml hr hlocks hown hts hP hK hN hl
  have hown : s.vm.findClass RX3 = some m.cls := hown
  have hl : lv_has ls 3 [(0, .ref (ta G t (0))), (1, .int (nI r))] := hl
  have hS : va_S (oA G) s.heap s.heap [] := va_S.rf
  obtain ⟨hz1, hz2, hz3, hz4, hz5, hz6, hz7⟩ := id hz
  refine lv_iconst (v := 0) hx hb dX3_tireEars_0 (by decide) ?_
  refine lv_istore_n (lv' := [(2, .int 0), (0, .ref (ta G t (0))), (1, .int (nI r))]) hx hb dX3_tireEars_1 rfl hl (by decide) rfl (fun ls hl => ?_)
  have lp2 : ∀ (d2 k : Nat), k + d2 = 6 → ∀ x2_2 : Int32, x2_2 = (nI k) → ∀ (τ2 : oT), τ2 = (oTe τ nO r k) → ∀ (H : Heap) (locs : List Loc), va_P G.1 vwCl (tw G Z t τ2) H → va_S (oA G) s.heap H locs → ∀ ls : Array Slot, lv_has ls 3 [(0, .ref (ta G t (0))), (1, .int (nI r)), (2, .int x2_2)] → W p l e ({ frames := 2, cells := 0, slots := 0, locals := 44 } : Room) s m ([.ref (ta G t (0)), .int (nI r)] : List Value).toArray below meth c H locs 0 0 (MQ below (oQ none (fun H9 => va_P G.1 vwCl (tw G Z t (oTe τ nO r 6)) H9) (oA G)) ([.ref (ta G t (0)), .int (nI r)] : List Value).toArray s 0 0 (oA G)) (F0 m 2 ls []) := by
    intro d2
    induction d2 with
    | zero =>
      intro k hk2 x2_2 e2_2 τ2 eτ2 H locs hP hS ls hl
      subst e2_2
      subst eτ2
      have hz2 : oOK (oTe τ nO r k) nS nO nH := hz.of (oTe_kp _ _ _ _)
      have hk2 : k = 6 := by omega
      refine lv_iload_n hx hb dX3_tireEars_2 rfl (lv_at hl 2 rfl) ?_
      refine lv_bipush (v := 6) hx hb dX3_tireEars_3 (by decide) ?_
      refine lv_icmp_ge (tgt := 30) hx hb dX3_tireEars_5 (by decide) (fun c5 => ?_) (fun c5 => ?_)
      · have n5 := (o_nle (a := 6) (b := k) (by decide) rfl (by omega) (by omega)).mp c5
        exact o_vretM hx hb hr hlocks hS dX3_tireEars_30 (by subst hk2; exact hP)
      · have n5 := (mt (o_nle (a := 6) (b := k) (by decide) rfl (by omega) (by omega)).mpr) c5; omega
    | succ d2 ih2 =>
      intro k hk2 x2_2 e2_2 τ2 eτ2 H locs hP hS ls hl
      subst e2_2
      subst eτ2
      have hz2 : oOK (oTe τ nO r k) nS nO nH := hz.of (oTe_kp _ _ _ _)
      have hj2 : k < 6 := by omega
      refine lv_iload_n hx hb dX3_tireEars_2 rfl (lv_at hl 2 rfl) ?_
      refine lv_bipush (v := 6) hx hb dX3_tireEars_3 (by decide) ?_
      refine lv_icmp_ge (tgt := 30) hx hb dX3_tireEars_5 (by decide) (fun c5 => ?_) (fun c5 => ?_)
      · have n5 := (o_nle (a := 6) (b := k) (by decide) rfl (by omega) (by omega)).mp c5; omega
      · have n5 := (mt (o_nle (a := 6) (b := k) (by decide) rfl (by omega) (by omega)).mpr) c5
        refine lv_aload_n hx hb dX3_tireEars_8 rfl (lv_at hl 0 rfl) ?_
        refine va_get (D := G.1) (ci := 5) (v := .ref (ta G t (1))) (C := RX3) (T := TX3) (N := 5) hx hb hts (fun w9 h9 => List.mem_cons_of_mem _ (List.mem_append_left _ (List.mem_append_left _ (List.mem_append_right _ (h9))))) hown hK hP (1 + 67 * t + (0)) (tw_T G Z ht (oTe τ nO r k)) rfl 0 (by decide) (hts (.fieldLink RX3 11 "OrganCensus$Town" "streets" "[LOrganCensus$Street;") (List.mem_of_getElem? (i := 1) rfl)) (fun _ h9 => h9) rfl dX3_tireEars_9 ?_
        refine lv_iload_n hx hb dX3_tireEars_12 rfl (lv_at hl 1 rfl) ?_
        refine o_aald (k := r) (C := RX2) hx hb hK hP (1 + 67 * t + (1)) 1 (tw_SA G Z ht (oTe τ nO r k)) rfl rfl (by omega) (by decide) rfl dX3_tireEars_13 ?_
        refine lv_iload_n hx hb dX3_tireEars_14 rfl (lv_at hl 2 rfl) ?_
        refine lv_aload_n hx hb dX3_tireEars_15 rfl (lv_at hl 0 rfl) ?_
        refine lv_iload_n hx hb dX3_tireEars_16 rfl (lv_at hl 1 rfl) ?_
        refine lv_iload_n hx hb dX3_tireEars_17 rfl (lv_at hl 2 rfl) ?_
        refine o_cVi (q0 := 1 + 67 * t + (0)) (ci := 5) [.int (nI r), .int (nI k)] [.int (nI k), .ref (ta G t (3 + 4 * r))] ⟨hx, hb, hml, hown, hts⟩ (m_X3_isPlayed l G Z ht (oTe τ nO r k) nS nO nH hz2 (nI r) (nI k)) (cwV 2 hts gX3_tireEars_X3_isPlayed rfl rfl rfl (by decide +kernel) ⟨Nat.le_of_ble_eq_true rfl, Nat.le_of_ble_eq_true rfl⟩) hK hN hP rfl rfl (tw_T G Z ht (oTe τ nO r k)) rfl hl.1 rfl (Nat.le_of_ble_eq_true rfl) dX3_tireEars_18 ⟨Nat.zero_le _, Nat.zero_le _⟩ ?_
        refine o_cVmv (q0 := 1 + 67 * t + (3 + 4 * r)) (ci := 4) [.int (nI k), .int (bI (oPlN (oTe τ nO r k) (nI r) (nI k) nO))] [] ⟨hx, hb, hml, hown, hts⟩ (m_X2_tire l G Z ht hI (oTe τ nO r k) r (by omega) k (nI k) (rfl) (by omega) (oPlN (oTe τ nO r k) (nI r) (nI k) nO)) (cwV 2 hts gX3_tireEars_X2_tire rfl rfl rfl (by decide +kernel) ⟨Nat.le_of_ble_eq_true rfl, Nat.le_of_ble_eq_true rfl⟩) hK hN hP hS rfl rfl (tw_S G Z ht (oTe τ nO r k) (by omega)) rfl hl.1 rfl (Nat.le_of_ble_eq_true rfl) dX3_tireEars_21 ⟨Nat.zero_le _, Nat.zero_le _⟩ (fun H locs hP hS => ?_)
        refine lv_iinc (v := nI (k + 1)) (lv' := [(2, .int (nI (k + 1))), (0, .ref (ta G t (0))), (1, .int (nI r))]) hx hb dX3_tireEars_24 hl (k := 2) rfl (nI_1 k) (by decide) rfl (fun ls hl => ?_)
        refine lv_goto (tgt := 2) hx hb dX3_tireEars_27 (by decide) ?_
        exact ih2 (k + 1) (by omega) _ (rfl) _ (rfl) _ _ hP hS ls (lv_sub hl [1, 2, 0] rfl)
  exact lp2 (6) 0 (by omega) _ (rfl) _ (rfl) _ _ hP hS ls (lv_sub hl [1, 2, 0] rfl)
set_option maxHeartbeats 4000000 in
set_option maxRecDepth 100000 in
theorem m_X3_turnBarrels (l : Launch) (G : oG) (Z : oZ) {t : Nat} (ht : t < 2) (hI : wl_I G.2.1 137) (τ : oT) (nS : Nat) (nO : Nat) (nH : Nat) (hz : oOK τ nS nO nH) : Met l yX3_turnBarrels wsX3_turnBarrels ({ frames := 2, cells := 0, slots := 0, locals := 42 } : Room) (va_Pc [.ref (ta G t (0))] (PW G (tw G Z t τ))) (oQ none (fun H9 => va_P G.1 vwCl (tw G Z t (oTb τ nO)) H9) (oA G)) 0 0 (oA G) := by
  refine o_body (cc := cX3_turnBarrels) (by decide +kernel) rfl (Nat.le_of_ble_eq_true rfl) ?_
  intro p e s m below meth c ls hx hb hml hr hlocks hown hts hP hK hN hl
  have hown : s.vm.findClass RX3 = some m.cls := hown
  have hl : lv_has ls 2 [(0, .ref (ta G t (0)))] := hl
  have hS : va_S (oA G) s.heap s.heap [] := va_S.rf
  obtain ⟨hz1, hz2, hz3, hz4, hz5, hz6, hz7⟩ := id hz
  refine lv_iconst (v := 0) hx hb dX3_turnBarrels_0 (by decide) ?_
  refine lv_istore_n (lv' := [(1, .int 0), (0, .ref (ta G t (0)))]) hx hb dX3_turnBarrels_1 rfl hl (by decide) rfl (fun ls hl => ?_)
  have lp2 : ∀ (d2 k : Nat), k + d2 = nO → ∀ x2_1 : Int32, x2_1 = (nI k) → ∀ (τ2 : oT), τ2 = (oTb τ k) → ∀ (H : Heap) (locs : List Loc), va_P G.1 vwCl (tw G Z t τ2) H → va_S (oA G) s.heap H locs → ∀ ls : Array Slot, lv_has ls 2 [(0, .ref (ta G t (0))), (1, .int x2_1)] → W p l e ({ frames := 2, cells := 0, slots := 0, locals := 42 } : Room) s m ([.ref (ta G t (0))] : List Value).toArray below meth c H locs 0 0 (MQ below (oQ none (fun H9 => va_P G.1 vwCl (tw G Z t (oTb τ nO)) H9) (oA G)) ([.ref (ta G t (0))] : List Value).toArray s 0 0 (oA G)) (F0 m 2 ls []) := by
    intro d2
    induction d2 with
    | zero =>
      intro k hk2 x2_1 e2_1 τ2 eτ2 H locs hP hS ls hl
      subst e2_1
      subst eτ2
      have hz2 : oOK (oTb τ k) nS nO nH := hz.of (oTb_kp _ _)
      have hk2 : k = nO := by omega
      refine lv_iload_n hx hb dX3_turnBarrels_2 rfl (lv_at hl 1 rfl) ?_
      refine lv_aload_n hx hb dX3_turnBarrels_3 rfl (lv_at hl 0 rfl) ?_
      refine va_get (D := G.1) (ci := 5) (v := .int ((oTb τ k) 18 0 1)) (C := RX3) (T := TX3) (N := 5) hx hb hts (fun w9 h9 => List.mem_cons_of_mem _ (List.mem_append_left _ (List.mem_append_right _ (h9)))) hown hK hP (1 + 67 * t + (0)) (tw_T G Z ht (oTb τ k)) rfl 3 (by decide) (hts (.fieldLink RX3 29 "OrganCensus$Town" "organCount" "I") (List.mem_of_getElem? (i := 1) rfl)) (fun _ h9 => h9) rfl dX3_turnBarrels_4 ?_
      refine lv_icmp_ge (tgt := 37) hx hb dX3_turnBarrels_7 (by decide) (fun c7 => ?_) (fun c7 => ?_)
      · have n7 := (o_nle (a := nO) (b := k) hz2.2.2.1 rfl (by omega) (by omega)).mp c7
        exact o_vretM hx hb hr hlocks hS dX3_turnBarrels_37 (by subst hk2; exact hP)
      · have n7 := (mt (o_nle (a := nO) (b := k) hz2.2.2.1 rfl (by omega) (by omega)).mpr) c7; omega
    | succ d2 ih2 =>
      intro k hk2 x2_1 e2_1 τ2 eτ2 H locs hP hS ls hl
      subst e2_1
      subst eτ2
      have hz2 : oOK (oTb τ k) nS nO nH := hz.of (oTb_kp _ _)
      have hj2 : k < nO := by omega
      refine lv_iload_n hx hb dX3_turnBarrels_2 rfl (lv_at hl 1 rfl) ?_
      refine lv_aload_n hx hb dX3_turnBarrels_3 rfl (lv_at hl 0 rfl) ?_
      refine va_get (D := G.1) (ci := 5) (v := .int ((oTb τ k) 18 0 1)) (C := RX3) (T := TX3) (N := 5) hx hb hts (fun w9 h9 => List.mem_cons_of_mem _ (List.mem_append_left _ (List.mem_append_right _ (h9)))) hown hK hP (1 + 67 * t + (0)) (tw_T G Z ht (oTb τ k)) rfl 3 (by decide) (hts (.fieldLink RX3 29 "OrganCensus$Town" "organCount" "I") (List.mem_of_getElem? (i := 1) rfl)) (fun _ h9 => h9) rfl dX3_turnBarrels_4 ?_
      refine lv_icmp_ge (tgt := 37) hx hb dX3_turnBarrels_7 (by decide) (fun c7 => ?_) (fun c7 => ?_)
      · have n7 := (o_nle (a := nO) (b := k) hz2.2.2.1 rfl (by omega) (by omega)).mp c7; omega
      · have n7 := (mt (o_nle (a := nO) (b := k) hz2.2.2.1 rfl (by omega) (by omega)).mpr) c7
        refine lv_aload_n hx hb dX3_turnBarrels_10 rfl (lv_at hl 0 rfl) ?_
        refine va_get (D := G.1) (ci := 5) (v := .ref (ta G t (2))) (C := RX3) (T := TX3) (N := 5) hx hb hts (fun w9 h9 => List.mem_cons_of_mem _ (List.mem_append_left _ (List.mem_append_right _ (h9)))) hown hK hP (1 + 67 * t + (0)) (tw_T G Z ht (oTb τ k)) rfl 1 (by decide) (hts (.fieldLink RX3 19 "OrganCensus$Town" "organs" "[LOrganCensus$Organ;") (List.mem_of_getElem? (i := 2) rfl)) (fun _ h9 => h9) rfl dX3_turnBarrels_11 ?_
        refine lv_iload_n hx hb dX3_turnBarrels_14 rfl (lv_at hl 1 rfl) ?_
        refine o_aald (k := k) (C := RX0) hx hb hK hP (1 + 67 * t + (2)) 2 (tw_OA G Z ht (oTb τ k)) rfl rfl (by omega) (by decide) rfl dX3_turnBarrels_15 ?_
        refine va_get (D := G.1) (ci := 2) (v := .int ((oTb τ k) 12 k 0)) (C := RX0) (T := TX0) (N := 12) hx hb hts (fun w9 h9 => List.mem_cons_of_mem _ (List.mem_append_right _ (h9))) hown hK hP (1 + 67 * t + (27 + 5 * k)) (tw_O G Z ht (oTb τ k) (by omega)) rfl 6 (by decide) (hts (.fieldLink RX3 141 "OrganCensus$Organ" "hoursToGo" "I") (List.mem_of_getElem? (i := 3) rfl)) (fun _ h9 => h9) rfl dX3_turnBarrels_16 ?_
        refine lv_if_ne (tgt := 31) hx hb dX3_turnBarrels_19 (by decide) (fun c19 => ?_) (fun c19 => ?_)
        · refine lv_iinc (v := nI (k + 1)) (lv' := [(1, .int (nI (k + 1))), (0, .ref (ta G t (0)))]) hx hb dX3_turnBarrels_31 hl (k := 1) rfl (nI_1 k) (by decide) rfl (fun ls hl => ?_)
          refine lv_goto (tgt := 2) hx hb dX3_turnBarrels_34 (by decide) ?_
          exact ih2 (k + 1) (by omega) _ (rfl) _ (by simp [oTb, c7, c19]) _ _ hP hS ls (lv_sub hl [1, 0] rfl)
        · refine lv_aload_n hx hb dX3_turnBarrels_22 rfl (lv_at hl 0 rfl) ?_
          refine va_get (D := G.1) (ci := 5) (v := .ref (ta G t (2))) (C := RX3) (T := TX3) (N := 5) hx hb hts (fun w9 h9 => List.mem_cons_of_mem _ (List.mem_append_left _ (List.mem_append_right _ (h9)))) hown hK hP (1 + 67 * t + (0)) (tw_T G Z ht (oTb τ k)) rfl 1 (by decide) (hts (.fieldLink RX3 19 "OrganCensus$Town" "organs" "[LOrganCensus$Organ;") (List.mem_of_getElem? (i := 2) rfl)) (fun _ h9 => h9) rfl dX3_turnBarrels_23 ?_
          refine lv_iload_n hx hb dX3_turnBarrels_26 rfl (lv_at hl 1 rfl) ?_
          refine o_aald (k := k) (C := RX0) hx hb hK hP (1 + 67 * t + (2)) 2 (tw_OA G Z ht (oTb τ k)) rfl rfl (by omega) (by decide) rfl dX3_turnBarrels_27 ?_
          refine o_cVmv (q0 := 1 + 67 * t + (27 + 5 * k)) (ci := 2) [] [] ⟨hx, hb, hml, hown, hts⟩ (m_X0_turn l G Z ht hI (oTb τ k) k (by omega)) (cwV 0 hts gX3_turnBarrels_X0_turn rfl rfl rfl (by decide +kernel) ⟨Nat.le_of_ble_eq_true rfl, Nat.le_of_ble_eq_true rfl⟩) hK hN hP hS rfl rfl (tw_O G Z ht (oTb τ k) (by omega)) rfl hl.1 rfl (Nat.le_of_ble_eq_true rfl) dX3_turnBarrels_28 ⟨Nat.zero_le _, Nat.zero_le _⟩ (fun H locs hP hS => ?_)
          refine lv_iinc (v := nI (k + 1)) (lv' := [(1, .int (nI (k + 1))), (0, .ref (ta G t (0)))]) hx hb dX3_turnBarrels_31 hl (k := 1) rfl (nI_1 k) (by decide) rfl (fun ls hl => ?_)
          refine lv_goto (tgt := 2) hx hb dX3_turnBarrels_34 (by decide) ?_
          exact ih2 (k + 1) (by omega) _ (rfl) _ (by simp [oTb, c7, c19]) _ _ hP hS ls (lv_sub hl [1, 0] rfl)
  exact lp2 (nO) 0 (by omega) _ (rfl) _ (rfl) _ _ hP hS ls (lv_sub hl [1, 0] rfl)
set_option maxHeartbeats 4000000 in
set_option maxRecDepth 100000 in
theorem m_X3_refugeFrom (l : Launch) (G : oG) (Z : oZ) {t : Nat} (ht : t < 2) (τ : oT) (nS : Nat) (nO : Nat) (nH : Nat) (hz : oOK τ nS nO nH) (i : Nat) (hi : i < 8) (r : Nat) (ar : Int32) (er : ar = nI r) (hrS : r < nS) : Met l yX3_refugeFrom wsX3_refugeFrom ({ frames := 0, cells := 0, slots := 0, locals := 0 } : Room) (va_Pc [.ref (ta G t (0)), .ref (ta G t (27 + 5 * i)), .int ar] (PW G (tw G Z t τ))) (oR (some (.int (nI (oRf τ i r nS 1 (nS - 1)))))) 0 0 (fun _ => False) := by
  subst er
  refine o_body (cc := cX3_refugeFrom) (by decide +kernel) rfl (Nat.le_of_ble_eq_true rfl) ?_
  intro p e s m below meth c ls hx hb hml hr hlocks hown hts hP hK hN hl
  have hown : s.vm.findClass RX3 = some m.cls := hown
  have hl : lv_has ls 5 [(0, .ref (ta G t (0))), (1, .ref (ta G t (27 + 5 * i))), (2, .int (nI r))] := hl
  obtain ⟨hz1, hz2, hz3, hz4, hz5, hz6, hz7⟩ := id hz
  refine lv_iload_n hx hb dX3_refugeFrom_0 rfl (lv_at hl 2 rfl) ?_
  refine lv_istore_n (lv' := [(3, .int (nI r)), (0, .ref (ta G t (0))), (1, .ref (ta G t (27 + 5 * i))), (2, .int (nI r))]) hx hb dX3_refugeFrom_1 rfl hl (by decide) rfl (fun ls hl => ?_)
  refine lv_iconst (v := 1) hx hb dX3_refugeFrom_2 (by decide) ?_
  refine lv_istore (lv' := [(4, .int 1), (3, .int (nI r)), (0, .ref (ta G t (0))), (1, .ref (ta G t (27 + 5 * i))), (2, .int (nI r))]) hx hb dX3_refugeFrom_3 hl (by decide) rfl (fun ls hl => ?_)
  have lp5 : ∀ (d5 k : Nat), k + d5 = nS - 1 → ∀ x5_3 : Int32, x5_3 = (nI ((r + k) % nS)) → ∀ x5_4 : Int32, x5_4 = (nI (k + 1)) → (oRf τ i r nS 1 (nS - 1) = oRf τ i r nS (k + 1) d5) → ∀ ls : Array Slot, lv_has ls 5 [(0, .ref (ta G t (0))), (1, .ref (ta G t (27 + 5 * i))), (2, .int (nI r)), (3, .int x5_3), (4, .int x5_4)] → W p l e ({ frames := 0, cells := 0, slots := 0, locals := 0 } : Room) s m ([.ref (ta G t (0)), .ref (ta G t (27 + 5 * i)), .int (nI r)] : List Value).toArray below meth c s.heap [] 0 0 (MQ below (oR (some (.int (nI (oRf τ i r nS 1 (nS - 1)))))) ([.ref (ta G t (0)), .ref (ta G t (27 + 5 * i)), .int (nI r)] : List Value).toArray s 0 0 (fun _ => False)) (F0 m 5 ls []) := by
    intro d5
    induction d5 with
    | zero =>
      intro k hk5 x5_3 e5_3 x5_4 e5_4 hq ls hl
      subst e5_3
      subst e5_4
      have hk5 : k = nS - 1 := by omega
      refine lv_iload hx hb dX3_refugeFrom_5 (lv_at hl 4 rfl) ?_
      refine lv_aload_n hx hb dX3_refugeFrom_7 rfl (lv_at hl 0 rfl) ?_
      refine va_get (D := G.1) (ci := 5) (v := .int (τ 18 0 0)) (C := RX3) (T := TX3) (N := 5) hx hb hts (fun w9 h9 => List.mem_cons_of_mem _ (List.mem_append_left _ (List.mem_append_right _ (h9)))) hown hK hP (1 + 67 * t + (0)) (tw_T G Z ht τ) rfl 2 (by decide) (hts (.fieldLink RX3 25 "OrganCensus$Town" "streetCount" "I") (List.mem_of_getElem? (i := 1) rfl)) (fun _ h9 => h9) rfl dX3_refugeFrom_8 ?_
      refine lv_icmp_ge (tgt := 49) hx hb dX3_refugeFrom_11 (by decide) (fun c11 => ?_) (fun c11 => ?_)
      · have n11 := (o_nle (a := nS) (b := k + 1) hz.1 rfl (by omega) (by omega)).mp c11
        refine lv_iload_n hx hb dX3_refugeFrom_49 rfl (lv_at hl 2 rfl) ?_
        exact o_iretR hx hb hr hlocks dX3_refugeFrom_50 (by rw [hq]; rfl)
      · have n11 := (mt (o_nle (a := nS) (b := k + 1) hz.1 rfl (by omega) (by omega)).mpr) c11; omega
    | succ d5 ih5 =>
      intro k hk5 x5_3 e5_3 x5_4 e5_4 hq ls hl
      subst e5_3
      subst e5_4
      have hj5 : k < nS - 1 := by omega
      have hm1 : (r + k) % nS < nS := Nat.mod_lt _ (by omega)
      have hm2 : (r + (k + 1)) % nS < nS := Nat.mod_lt _ (by omega)
      refine lv_iload hx hb dX3_refugeFrom_5 (lv_at hl 4 rfl) ?_
      refine lv_aload_n hx hb dX3_refugeFrom_7 rfl (lv_at hl 0 rfl) ?_
      refine va_get (D := G.1) (ci := 5) (v := .int (τ 18 0 0)) (C := RX3) (T := TX3) (N := 5) hx hb hts (fun w9 h9 => List.mem_cons_of_mem _ (List.mem_append_left _ (List.mem_append_right _ (h9)))) hown hK hP (1 + 67 * t + (0)) (tw_T G Z ht τ) rfl 2 (by decide) (hts (.fieldLink RX3 25 "OrganCensus$Town" "streetCount" "I") (List.mem_of_getElem? (i := 1) rfl)) (fun _ h9 => h9) rfl dX3_refugeFrom_8 ?_
      refine lv_icmp_ge (tgt := 49) hx hb dX3_refugeFrom_11 (by decide) (fun c11 => ?_) (fun c11 => ?_)
      · have n11 := (o_nle (a := nS) (b := k + 1) hz.1 rfl (by omega) (by omega)).mp c11; omega
      · have n11 := (mt (o_nle (a := nS) (b := k + 1) hz.1 rfl (by omega) (by omega)).mpr) c11
        have jn31 : ∀ v31_0 : Int32, v31_0 = (nI ((r + (k + 1)) % nS)) → ∀ ls : Array Slot, lv_has ls 5 [(0, .ref (ta G t (0))), (1, .ref (ta G t (27 + 5 * i))), (2, .int (nI r)), (4, .int (nI (k + 1)))] → W p l e ({ frames := 0, cells := 0, slots := 0, locals := 0 } : Room) s m ([.ref (ta G t (0)), .ref (ta G t (27 + 5 * i)), .int (nI r)] : List Value).toArray below meth c s.heap [] 0 0 (MQ below (oR (some (.int (nI (oRf τ i r nS 1 (nS - 1)))))) ([.ref (ta G t (0)), .ref (ta G t (27 + 5 * i)), .int (nI r)] : List Value).toArray s 0 0 (fun _ => False)) (F0 m 31 ls [.int v31_0]) := by
          intro v31_0 ev31_0 ls hl
          subst ev31_0
          refine lv_istore_n (lv' := [(3, .int (nI ((r + (k + 1)) % nS))), (0, .ref (ta G t (0))), (1, .ref (ta G t (27 + 5 * i))), (2, .int (nI r)), (4, .int (nI (k + 1)))]) hx hb dX3_refugeFrom_31 rfl hl (by decide) rfl (fun ls hl => ?_)
          refine lv_aload_n hx hb dX3_refugeFrom_32 rfl (lv_at hl 2 rfl) ?_
          refine va_get (D := G.1) (ci := 2) (v := .ref (ta G t (31 + 5 * i))) (C := RX0) (T := TX0) (N := 12) hx hb hts (fun w9 h9 => List.mem_cons_of_mem _ (List.mem_append_right _ (h9))) hown hK hP (1 + 67 * t + (27 + 5 * i)) (tw_O G Z ht τ (by omega)) rfl 3 (by decide) (hts (.fieldLink RX3 154 "OrganCensus$Organ" "banishedHours" "[I") (List.mem_of_getElem? (i := 2) rfl)) (fun _ h9 => h9) rfl dX3_refugeFrom_33 ?_
          refine lv_iload_n hx hb dX3_refugeFrom_36 rfl (lv_at hl 0 rfl) ?_
          refine o_iald (k := (r + (k + 1)) % nS) hx hb hK hP (1 + 67 * t + (31 + 5 * i)) 0 (tw_Ob G Z ht τ (by omega)) rfl rfl (by omega) (by decide) dX3_refugeFrom_37 ?_
          refine lv_if_ne (tgt := 43) hx hb dX3_refugeFrom_38 (by decide) (fun c38 => ?_) (fun c38 => ?_)
          · refine lv_iinc (v := nI ((k + 1) + 1)) (lv' := [(4, .int (nI ((k + 1) + 1))), (3, .int (nI ((r + (k + 1)) % nS))), (0, .ref (ta G t (0))), (1, .ref (ta G t (27 + 5 * i))), (2, .int (nI r))]) hx hb dX3_refugeFrom_43 hl (k := 4) rfl (nI_1 (k + 1)) (by decide) rfl (fun ls hl => ?_)
            refine lv_goto (tgt := 5) hx hb dX3_refugeFrom_46 (by decide) ?_
            exact ih5 (k + 1) (by omega) _ (rfl) _ (rfl) (by rw [hq]; simp [oRf, c11, c38]) ls (lv_sub hl [2, 3, 4, 1, 0] rfl)
          · refine lv_iload_n hx hb dX3_refugeFrom_41 rfl (lv_at hl 0 rfl) ?_
            exact o_iretR hx hb hr hlocks dX3_refugeFrom_42 (by rw [hq]; simp [oRf, c11, c38])
        refine lv_iload_n hx hb dX3_refugeFrom_14 rfl (lv_at hl 3 rfl) ?_
        refine lv_iconst (v := 1) hx hb dX3_refugeFrom_15 (by decide) ?_
        refine lv_iadd hx hb dX3_refugeFrom_16 ?_
        refine lv_aload_n hx hb dX3_refugeFrom_17 rfl (lv_at hl 0 rfl) ?_
        refine va_get (D := G.1) (ci := 5) (v := .int (τ 18 0 0)) (C := RX3) (T := TX3) (N := 5) hx hb hts (fun w9 h9 => List.mem_cons_of_mem _ (List.mem_append_left _ (List.mem_append_right _ (h9)))) hown hK hP (1 + 67 * t + (0)) (tw_T G Z ht τ) rfl 2 (by decide) (hts (.fieldLink RX3 25 "OrganCensus$Town" "streetCount" "I") (List.mem_of_getElem? (i := 1) rfl)) (fun _ h9 => h9) rfl dX3_refugeFrom_18 ?_
        refine lv_icmp_ge (tgt := 30) hx hb dX3_refugeFrom_21 (by decide) (fun c21 => ?_) (fun c21 => ?_)
        · have n21 := (o_nle (a := nS) (b := ((r + k) % nS) + 1) hz.1 (o_nadd rfl (by decide)) (by omega) (by omega)).mp c21
          refine lv_iconst (v := 0) hx hb dX3_refugeFrom_30 (by decide) ?_
          exact jn31 _ (by first | exact o_next0 (by omega) n21 | exact o_next1 n21) ls (lv_sub hl [0, 1, 2, 4] rfl)
        · have n21 := (mt (o_nle (a := nS) (b := ((r + k) % nS) + 1) hz.1 (o_nadd rfl (by decide)) (by omega) (by omega)).mpr) c21
          refine lv_iload_n hx hb dX3_refugeFrom_24 rfl (lv_at hl 3 rfl) ?_
          refine lv_iconst (v := 1) hx hb dX3_refugeFrom_25 (by decide) ?_
          refine lv_iadd hx hb dX3_refugeFrom_26 ?_
          refine lv_goto (tgt := 31) hx hb dX3_refugeFrom_27 (by decide) ?_
          exact jn31 _ (by first | exact o_next0 (by omega) n21 | exact o_next1 n21) ls (lv_sub hl [0, 1, 2, 4] rfl)
  exact lp5 (nS - 1) 0 (by omega) _ (by rw [Nat.add_zero, Nat.mod_eq_of_lt hrS]) _ (rfl) (rfl) ls (lv_sub hl [2, 3, 4, 1, 0] rfl)
set_option maxHeartbeats 4000000 in
set_option maxRecDepth 100000 in
theorem m_X3_banish (l : Launch) (G : oG) (Z : oZ) {t : Nat} (ht : t < 2) (hI : wl_I G.2.1 137) (τ : oT) (nS : Nat) (nO : Nat) (nH : Nat) (hz : oOK τ nS nO nH) (i : Nat) (hi : i < 8) (r : Nat) (ar : Int32) (er : ar = nI r) (hrS : r < nS) : Met l yX3_banish wsX3_banish ({ frames := 1, cells := 0, slots := 0, locals := 24 } : Room) (va_Pc [.ref (ta G t (0)), .ref (ta G t (27 + 5 * i)), .int ar] (PW G (tw G Z t τ))) (oQ none (fun H9 => va_P G.1 vwCl (tw G Z t (oBanish τ nS i r)) H9) (oA G)) 0 0 (oA G) := by
  subst er
  refine o_body (cc := cX3_banish) (by decide +kernel) rfl (Nat.le_of_ble_eq_true rfl) ?_
  intro p e s m below meth c ls hx hb hml hr hlocks hown hts hP hK hN hl
  have hown : s.vm.findClass RX3 = some m.cls := hown
  have hl : lv_has ls 3 [(0, .ref (ta G t (0))), (1, .ref (ta G t (27 + 5 * i))), (2, .int (nI r))] := hl
  have hS : va_S (oA G) s.heap s.heap [] := va_S.rf
  obtain ⟨hz1, hz2, hz3, hz4, hz5, hz6, hz7⟩ := id hz
  refine lv_aload_n hx hb dX3_banish_0 rfl (lv_at hl 1 rfl) ?_
  refine va_get (D := G.1) (ci := 2) (v := .ref (ta G t (31 + 5 * i))) (C := RX0) (T := TX0) (N := 12) hx hb hts (fun w9 h9 => List.mem_cons_of_mem _ (List.mem_append_left _ (List.mem_append_left _ (List.mem_append_right _ (h9))))) hown hK hP (1 + 67 * t + (27 + 5 * i)) (tw_O G Z ht τ (by omega)) rfl 3 (by decide) (hts (.fieldLink RX3 154 "OrganCensus$Organ" "banishedHours" "[I") (List.mem_of_getElem? (i := 1) rfl)) (fun _ h9 => h9) rfl dX3_banish_1 ?_
  refine lv_iload_n hx hb dX3_banish_4 rfl (lv_at hl 2 rfl) ?_
  refine lv_bipush (v := 25) hx hb dX3_banish_5 (by decide) ?_
  refine o_iast (k := r) hx hb hK hP (tw_D G Z t _ hI) hS (1 + 67 * t + (31 + 5 * i)) 0 (tw_Ob G Z ht τ (by omega)) rfl rfl (by omega) (by decide) dX3_banish_7 (fun H locs hP hD hS => ?_)
  have hP : va_P G.1 vwCl (tw G Z t (su τ 9 i r 25)) H := by rw [← tw_uO9 G Z ht τ (by omega) r 25]; exact hP
  clear hD
  refine lv_aload_n hx hb dX3_banish_8 rfl (lv_at hl 0 rfl) ?_
  refine va_get (D := G.1) (ci := 5) (v := .ref (ta G t (1))) (C := RX3) (T := TX3) (N := 5) hx hb hts (fun w9 h9 => List.mem_cons_of_mem _ (List.mem_append_left _ (List.mem_append_right _ (h9)))) hown hK hP (1 + 67 * t + (0)) (tw_T G Z ht (su τ 9 i r 25)) rfl 0 (by decide) (hts (.fieldLink RX3 11 "OrganCensus$Town" "streets" "[LOrganCensus$Street;") (List.mem_of_getElem? (i := 2) rfl)) (fun _ h9 => h9) rfl dX3_banish_9 ?_
  refine lv_iload_n hx hb dX3_banish_12 rfl (lv_at hl 2 rfl) ?_
  refine o_aald (k := r) (C := RX2) hx hb hK hP (1 + 67 * t + (1)) 1 (tw_SA G Z ht (su τ 9 i r 25)) rfl rfl (by omega) (by decide) rfl dX3_banish_13 ?_
  refine lv_dup hx hb dX3_banish_14 rfl ?_
  refine va_get (D := G.1) (ci := 4) (v := .int ((su τ 9 i r 25) 5 r 0)) (C := RX2) (T := TX2) (N := 6) hx hb hts (fun w9 h9 => List.mem_cons_of_mem _ (List.mem_append_right _ (h9))) hown hK hP (1 + 67 * t + (3 + 4 * r)) (tw_S G Z ht (su τ 9 i r 25) (by omega)) rfl 5 (by decide) (hts (.fieldLink RX3 157 "OrganCensus$Street" "banishments" "I") (List.mem_of_getElem? (i := 3) rfl)) (fun _ h9 => h9) rfl dX3_banish_15 ?_
  refine lv_iconst (v := 1) hx hb dX3_banish_18 (by decide) ?_
  refine lv_iadd hx hb dX3_banish_19 ?_
  refine va_put (D := G.1) (ci := 4) (v := .int (((su τ 9 i r 25) 5 r 0) + 1)) (ty := .int) (C := RX2) (T := TX2) (N := 6) hx hb hts (fun w9 h9 => List.mem_cons_of_mem _ (List.mem_append_right _ (h9))) tyX2 tyX2_ok nmX2 hown hK hP (tw_D G Z t _ hI) hS (1 + 67 * t + (3 + 4 * r)) (tw_S G Z ht (su τ 9 i r 25) (by omega)) rfl 5 (by decide) (hts (.fieldLink RX3 157 "OrganCensus$Street" "banishments" "I") (List.mem_of_getElem? (i := 3) rfl)) (fun _ h9 => h9) rfl (by decide +kernel) rfl rfl (Nat.le_of_ble_eq_true rfl) dX3_banish_20 (fun H locs hP hD hS => ?_)
  have hP : va_P G.1 vwCl (tw G Z t (su (su τ 9 i r 25) 5 r 0 (((su τ 9 i r 25) 5 r 0) + 1))) H := by rw [← tw_uS5 G Z ht (su τ 9 i r 25) (by omega) (((su τ 9 i r 25) 5 r 0) + 1)]; exact hP
  clear hD
  have hP : va_P G.1 vwCl (tw G Z t (oBn1 τ i r)) H := hP
  have hz20 : oOK (oBn1 τ i r) nS nO nH := hz.of (oBn1_kp τ i r)
  refine lv_aload_n hx hb dX3_banish_23 rfl (lv_at hl 1 rfl) ?_
  refine lv_iload_n hx hb dX3_banish_24 rfl (lv_at hl 2 rfl) ?_
  refine o_cVi (q0 := 1 + 67 * t + (27 + 5 * i)) (ci := 2) [.int (nI r)] [] ⟨hx, hb, hml, hown, hts⟩ (m_X0_standsIn l G Z ht (oBn1 τ i r) i (by omega) (nI r)) (cwV 1 hts gX3_banish_X0_standsIn rfl rfl rfl (by decide +kernel) ⟨Nat.le_of_ble_eq_true rfl, Nat.le_of_ble_eq_true rfl⟩) hK hN hP rfl rfl (tw_O G Z ht (oBn1 τ i r) (by omega)) rfl hl.1 rfl (Nat.le_of_ble_eq_true rfl) dX3_banish_25 ⟨Nat.zero_le _, Nat.zero_le _⟩ ?_
  refine lv_if_eq (tgt := 43) hx hb dX3_banish_28 (by decide) (fun c28 => ?_) (fun c28 => ?_)
  · have c28 := bI_eq.mp c28
    exact o_vretM hx hb hr hlocks hS dX3_banish_43 (by simp only [oBanish, c28]; exact hP)
  · have c28 := bI_ne.mp c28
    refine lv_aload_n hx hb dX3_banish_31 rfl (lv_at hl 1 rfl) ?_
    refine lv_aload_n hx hb dX3_banish_32 rfl (lv_at hl 0 rfl) ?_
    refine lv_aload_n hx hb dX3_banish_33 rfl (lv_at hl 1 rfl) ?_
    refine lv_iload_n hx hb dX3_banish_34 rfl (lv_at hl 2 rfl) ?_
    refine o_cVi (q0 := 1 + 67 * t + (0)) (ci := 5) [.ref (ta G t (27 + 5 * i)), .int (nI r)] [.ref (ta G t (27 + 5 * i))] ⟨hx, hb, hml, hown, hts⟩ (m_X3_refugeFrom l G Z ht (oBn1 τ i r) nS nO nH hz20 i (by omega) r (nI r) (rfl) (by omega)) (cwV 2 hts gX3_banish_X3_refugeFrom rfl rfl rfl (by decide +kernel) ⟨Nat.le_of_ble_eq_true rfl, Nat.le_of_ble_eq_true rfl⟩) hK hN hP rfl rfl (tw_T G Z ht (oBn1 τ i r)) rfl hl.1 rfl (Nat.le_of_ble_eq_true rfl) dX3_banish_35 ⟨Nat.zero_le _, Nat.zero_le _⟩ ?_
    refine lv_iconst (v := 0) hx hb dX3_banish_38 (by decide) ?_
    refine lv_iconst (v := 3) hx hb dX3_banish_39 (by decide) ?_
    refine o_cVmv (q0 := 1 + 67 * t + (27 + 5 * i)) (ci := 2) [.int (nI (oRf (oBn1 τ i r) i r nS 1 (nS - 1))), .int 0, .int 3] [] ⟨hx, hb, hml, hown, hts⟩ (m_X0_moveTo l G Z ht hI (oBn1 τ i r) i (by omega) (nI (oRf (oBn1 τ i r) i r nS 1 (nS - 1))) 0 3) (cwV 3 hts gX3_banish_X0_moveTo rfl rfl rfl (by decide +kernel) ⟨Nat.le_of_ble_eq_true rfl, Nat.le_of_ble_eq_true rfl⟩) hK hN hP hS rfl rfl (tw_O G Z ht (oBn1 τ i r) (by omega)) rfl hl.1 rfl (Nat.le_of_ble_eq_true rfl) dX3_banish_40 ⟨Nat.zero_le _, Nat.zero_le _⟩ (fun H locs hP hS => ?_)
    exact o_vretM hx hb hr hlocks hS dX3_banish_43 (by simp only [oBanish, c28]; exact hP)
set_option maxHeartbeats 4000000 in
set_option maxRecDepth 100000 in
theorem m_X3_callConstables (l : Launch) (G : oG) (Z : oZ) {t : Nat} (ht : t < 2) (hI : wl_I G.2.1 137) (τ : oT) (nS : Nat) (nO : Nat) (nH : Nat) (hz : oOK τ nS nO nH) (r : Nat) (ar : Int32) (er : ar = nI r) (hrS : r < nS) : Met l yX3_callConstables wsX3_callConstables ({ frames := 2, cells := 0, slots := 0, locals := 46 } : Room) (va_Pc [.ref (ta G t (0)), .int ar] (PW G (tw G Z t τ))) (oQ none (fun H9 => va_P G.1 vwCl (tw G Z t (oConst τ nS nO r)) H9) (oA G)) 0 0 (oA G) := by
  subst er
  refine o_body (cc := cX3_callConstables) (by decide +kernel) rfl (Nat.le_of_ble_eq_true rfl) ?_
  intro p e s m below meth c ls hx hb hml hr hlocks hown hts hP hK hN hl
  have hown : s.vm.findClass RX3 = some m.cls := hown
  have hl : lv_has ls 4 [(0, .ref (ta G t (0))), (1, .int (nI r))] := hl
  have hS : va_S (oA G) s.heap s.heap [] := va_S.rf
  obtain ⟨hz1, hz2, hz3, hz4, hz5, hz6, hz7⟩ := id hz
  refine lv_aload_n hx hb dX3_callConstables_0 rfl (lv_at hl 0 rfl) ?_
  refine lv_iload_n hx hb dX3_callConstables_1 rfl (lv_at hl 1 rfl) ?_
  refine o_cVi (q0 := 1 + 67 * t + (0)) (ci := 5) [.int (nI r)] [] ⟨hx, hb, hml, hown, hts⟩ (m_X3_complaintsIn l G Z ht τ nS nO nH hz r (nI r) (rfl) (by omega)) (cwV 1 hts gX3_callConstables_X3_complaintsIn rfl rfl rfl (by decide +kernel) ⟨Nat.le_of_ble_eq_true rfl, Nat.le_of_ble_eq_true rfl⟩) hK hN hP rfl rfl (tw_T G Z ht τ) rfl hl.1 rfl (Nat.le_of_ble_eq_true rfl) dX3_callConstables_2 ⟨Nat.zero_le _, Nat.zero_le _⟩ ?_
  refine lv_bipush (v := 10) hx hb dX3_callConstables_5 (by decide) ?_
  refine lv_icmp_ge (tgt := 11) hx hb dX3_callConstables_7 (by decide) (fun c7 => ?_) (fun c7 => ?_)
  · have hn1 : 1 ≤ nO := by
      rcases Nat.eq_zero_or_pos nO with h | h
      · subst h; exact absurd c7 (show ¬ (10 : Int32) ≤ 0 by decide)
      · exact h
    refine lv_iconst (v := 0) hx hb dX3_callConstables_11 (by decide) ?_
    refine lv_istore_n (lv' := [(2, .int 0), (0, .ref (ta G t (0))), (1, .int (nI r))]) hx hb dX3_callConstables_12 rfl hl (by decide) rfl (fun ls hl => ?_)
    refine lv_iconst (v := 1) hx hb dX3_callConstables_13 (by decide) ?_
    refine lv_istore_n (lv' := [(3, .int 1), (2, .int 0), (0, .ref (ta G t (0))), (1, .int (nI r))]) hx hb dX3_callConstables_14 rfl hl (by decide) rfl (fun ls hl => ?_)
    have lp15 : ∀ (d15 k : Nat), k + d15 = nO - 1 → ∀ x15_2 : Int32, x15_2 = (nI (oWo τ r k)) → ∀ x15_3 : Int32, x15_3 = (nI (k + 1)) → ∀ ls : Array Slot, lv_has ls 4 [(0, .ref (ta G t (0))), (1, .int (nI r)), (2, .int x15_2), (3, .int x15_3)] → W p l e ({ frames := 2, cells := 0, slots := 0, locals := 46 } : Room) s m ([.ref (ta G t (0)), .int (nI r)] : List Value).toArray below meth c s.heap [] 0 0 (MQ below (oQ none (fun H9 => va_P G.1 vwCl (tw G Z t (oConst τ nS nO r)) H9) (oA G)) ([.ref (ta G t (0)), .int (nI r)] : List Value).toArray s 0 0 (oA G)) (F0 m 15 ls []) := by
      intro d15
      induction d15 with
      | zero =>
        intro k hk15 x15_2 e15_2 x15_3 e15_3 ls hl
        subst e15_2
        subst e15_3
        have hk15 : k = nO - 1 := by omega
        have hwo := oWo_le τ r k
        refine lv_iload_n hx hb dX3_callConstables_15 rfl (lv_at hl 3 rfl) ?_
        refine lv_aload_n hx hb dX3_callConstables_16 rfl (lv_at hl 0 rfl) ?_
        refine va_get (D := G.1) (ci := 5) (v := .int (τ 18 0 1)) (C := RX3) (T := TX3) (N := 5) hx hb hts (fun w9 h9 => List.mem_cons_of_mem _ (List.mem_append_left _ (List.mem_append_left _ (List.mem_append_right _ (h9))))) hown hK hP (1 + 67 * t + (0)) (tw_T G Z ht τ) rfl 3 (by decide) (hts (.fieldLink RX3 29 "OrganCensus$Town" "organCount" "I") (List.mem_of_getElem? (i := 1) rfl)) (fun _ h9 => h9) rfl dX3_callConstables_17 ?_
        refine lv_icmp_ge (tgt := 56) hx hb dX3_callConstables_20 (by decide) (fun c20 => ?_) (fun c20 => ?_)
        · have n20 := (o_nle (a := nO) (b := k + 1) hz.2.2.1 rfl (by omega) (by omega)).mp c20
          refine lv_aload_n hx hb dX3_callConstables_56 rfl (lv_at hl 0 rfl) ?_
          refine lv_aload_n hx hb dX3_callConstables_57 rfl (lv_at hl 0 rfl) ?_
          refine va_get (D := G.1) (ci := 5) (v := .ref (ta G t (2))) (C := RX3) (T := TX3) (N := 5) hx hb hts (fun w9 h9 => List.mem_cons_of_mem _ (List.mem_append_left _ (List.mem_append_left _ (List.mem_append_right _ (h9))))) hown hK hP (1 + 67 * t + (0)) (tw_T G Z ht τ) rfl 1 (by decide) (hts (.fieldLink RX3 19 "OrganCensus$Town" "organs" "[LOrganCensus$Organ;") (List.mem_of_getElem? (i := 2) rfl)) (fun _ h9 => h9) rfl dX3_callConstables_58 ?_
          refine lv_iload_n hx hb dX3_callConstables_61 rfl (lv_at hl 2 rfl) ?_
          refine o_aald (k := oWo τ r k) (C := RX0) hx hb hK hP (1 + 67 * t + (2)) 2 (tw_OA G Z ht τ) rfl rfl (by omega) (by decide) rfl dX3_callConstables_62 ?_
          refine lv_iload_n hx hb dX3_callConstables_63 rfl (lv_at hl 1 rfl) ?_
          refine o_cVmv (q0 := 1 + 67 * t + (0)) (ci := 5) [.ref (ta G t (27 + 5 * (oWo τ r k))), .int (nI r)] [] ⟨hx, hb, hml, hown, hts⟩ (m_X3_banish l G Z ht hI τ nS nO nH hz (oWo τ r k) (by omega) r (nI r) (rfl) (by omega)) (cwV 2 hts gX3_callConstables_X3_banish rfl rfl rfl (by decide +kernel) ⟨Nat.le_of_ble_eq_true rfl, Nat.le_of_ble_eq_true rfl⟩) hK hN hP hS rfl rfl (tw_T G Z ht τ) rfl hl.1 rfl (Nat.le_of_ble_eq_true rfl) dX3_callConstables_64 ⟨Nat.zero_le _, Nat.zero_le _⟩ (fun H locs hP hS => ?_)
          have hz64 : oOK (oBanish τ nS (oWo τ r k) r) nS nO nH := hz.of (oBanish_kp _ _ _ _)
          refine lv_iconst (v := 0) hx hb dX3_callConstables_67 (by decide) ?_
          refine lv_istore_n (lv' := [(3, .int 0), (0, .ref (ta G t (0))), (1, .int (nI r)), (2, .int (nI (oWo τ r k)))]) hx hb dX3_callConstables_68 rfl hl (by decide) rfl (fun ls hl => ?_)
          have lp69 : ∀ (d69 j : Nat), j + d69 = nO → ∀ x69_3 : Int32, x69_3 = (nI j) → ∀ (τ69 : oT), τ69 = (oZc (oBanish τ nS (oWo τ r k) r) r j) → ∀ (H : Heap) (locs : List Loc), va_P G.1 vwCl (tw G Z t τ69) H → va_S (oA G) s.heap H locs → ∀ ls : Array Slot, lv_has ls 4 [(0, .ref (ta G t (0))), (1, .int (nI r)), (3, .int x69_3)] → W p l e ({ frames := 2, cells := 0, slots := 0, locals := 46 } : Room) s m ([.ref (ta G t (0)), .int (nI r)] : List Value).toArray below meth c H locs 0 0 (MQ below (oQ none (fun H9 => va_P G.1 vwCl (tw G Z t (oConst τ nS nO r)) H9) (oA G)) ([.ref (ta G t (0)), .int (nI r)] : List Value).toArray s 0 0 (oA G)) (F0 m 69 ls []) := by
            intro d69
            induction d69 with
            | zero =>
              intro j hk69 x69_3 e69_3 τ69 eτ69 H locs hP hS ls hl
              subst e69_3
              subst eτ69
              have hz69 : oOK (oZc (oBanish τ nS (oWo τ r k) r) r j) nS nO nH := hz64.of (oZc_kp _ _ _)
              have hk69 : j = nO := by omega
              refine lv_iload_n hx hb dX3_callConstables_69 rfl (lv_at hl 2 rfl) ?_
              refine lv_aload_n hx hb dX3_callConstables_70 rfl (lv_at hl 0 rfl) ?_
              refine va_get (D := G.1) (ci := 5) (v := .int ((oZc (oBanish τ nS (oWo τ r k) r) r j) 18 0 1)) (C := RX3) (T := TX3) (N := 5) hx hb hts (fun w9 h9 => List.mem_cons_of_mem _ (List.mem_append_left _ (List.mem_append_left _ (List.mem_append_right _ (h9))))) hown hK hP (1 + 67 * t + (0)) (tw_T G Z ht (oZc (oBanish τ nS (oWo τ r k) r) r j)) rfl 3 (by decide) (hts (.fieldLink RX3 29 "OrganCensus$Town" "organCount" "I") (List.mem_of_getElem? (i := 1) rfl)) (fun _ h9 => h9) rfl dX3_callConstables_71 ?_
              refine lv_icmp_ge (tgt := 95) hx hb dX3_callConstables_74 (by decide) (fun c74 => ?_) (fun c74 => ?_)
              · have n74 := (o_nle (a := nO) (b := j) hz69.2.2.1 rfl (by omega) (by omega)).mp c74
                exact o_vretM hx hb hr hlocks hS dX3_callConstables_95 (by first | (subst hk15; subst hk69; simp only [oConst, c7, c20, c74, if_true]; exact hP) | (simp only [oConst, c7, c20, c74, if_false]; exact hP))
              · have n74 := (mt (o_nle (a := nO) (b := j) hz69.2.2.1 rfl (by omega) (by omega)).mpr) c74; omega
            | succ d69 ih69 =>
              intro j hk69 x69_3 e69_3 τ69 eτ69 H locs hP hS ls hl
              subst e69_3
              subst eτ69
              have hz69 : oOK (oZc (oBanish τ nS (oWo τ r k) r) r j) nS nO nH := hz64.of (oZc_kp _ _ _)
              have hj69 : j < nO := by omega
              refine lv_iload_n hx hb dX3_callConstables_69 rfl (lv_at hl 2 rfl) ?_
              refine lv_aload_n hx hb dX3_callConstables_70 rfl (lv_at hl 0 rfl) ?_
              refine va_get (D := G.1) (ci := 5) (v := .int ((oZc (oBanish τ nS (oWo τ r k) r) r j) 18 0 1)) (C := RX3) (T := TX3) (N := 5) hx hb hts (fun w9 h9 => List.mem_cons_of_mem _ (List.mem_append_left _ (List.mem_append_left _ (List.mem_append_right _ (h9))))) hown hK hP (1 + 67 * t + (0)) (tw_T G Z ht (oZc (oBanish τ nS (oWo τ r k) r) r j)) rfl 3 (by decide) (hts (.fieldLink RX3 29 "OrganCensus$Town" "organCount" "I") (List.mem_of_getElem? (i := 1) rfl)) (fun _ h9 => h9) rfl dX3_callConstables_71 ?_
              refine lv_icmp_ge (tgt := 95) hx hb dX3_callConstables_74 (by decide) (fun c74 => ?_) (fun c74 => ?_)
              · have n74 := (o_nle (a := nO) (b := j) hz69.2.2.1 rfl (by omega) (by omega)).mp c74; omega
              · have n74 := (mt (o_nle (a := nO) (b := j) hz69.2.2.1 rfl (by omega) (by omega)).mpr) c74
                refine lv_aload_n hx hb dX3_callConstables_77 rfl (lv_at hl 0 rfl) ?_
                refine va_get (D := G.1) (ci := 5) (v := .ref (ta G t (2))) (C := RX3) (T := TX3) (N := 5) hx hb hts (fun w9 h9 => List.mem_cons_of_mem _ (List.mem_append_left _ (List.mem_append_left _ (List.mem_append_right _ (h9))))) hown hK hP (1 + 67 * t + (0)) (tw_T G Z ht (oZc (oBanish τ nS (oWo τ r k) r) r j)) rfl 1 (by decide) (hts (.fieldLink RX3 19 "OrganCensus$Town" "organs" "[LOrganCensus$Organ;") (List.mem_of_getElem? (i := 2) rfl)) (fun _ h9 => h9) rfl dX3_callConstables_78 ?_
                refine lv_iload_n hx hb dX3_callConstables_81 rfl (lv_at hl 2 rfl) ?_
                refine o_aald (k := j) (C := RX0) hx hb hK hP (1 + 67 * t + (2)) 2 (tw_OA G Z ht (oZc (oBanish τ nS (oWo τ r k) r) r j)) rfl rfl (by omega) (by decide) rfl dX3_callConstables_82 ?_
                refine va_get (D := G.1) (ci := 2) (v := .ref (ta G t (30 + 5 * j))) (C := RX0) (T := TX0) (N := 12) hx hb hts (fun w9 h9 => List.mem_cons_of_mem _ (List.mem_append_left _ (List.mem_append_right _ (h9)))) hown hK hP (1 + 67 * t + (27 + 5 * j)) (tw_O G Z ht (oZc (oBanish τ nS (oWo τ r k) r) r j) (by omega)) rfl 2 (by decide) (hts (.fieldLink RX3 126 "OrganCensus$Organ" "complaints" "[I") (List.mem_of_getElem? (i := 3) rfl)) (fun _ h9 => h9) rfl dX3_callConstables_83 ?_
                refine lv_iload_n hx hb dX3_callConstables_86 rfl (lv_at hl 1 rfl) ?_
                refine lv_iconst (v := 0) hx hb dX3_callConstables_87 (by decide) ?_
                refine o_iast (k := r) hx hb hK hP (tw_D G Z t _ hI) hS (1 + 67 * t + (30 + 5 * j)) 0 (tw_Oc G Z ht (oZc (oBanish τ nS (oWo τ r k) r) r j) (by omega)) rfl rfl (by omega) (by decide) dX3_callConstables_88 (fun H locs hP hD hS => ?_)
                have hP : va_P G.1 vwCl (tw G Z t (su (oZc (oBanish τ nS (oWo τ r k) r) r j) 8 j r 0)) H := by rw [← tw_uO8 G Z ht (oZc (oBanish τ nS (oWo τ r k) r) r j) (by omega) r 0]; exact hP
                clear hD
                refine lv_iinc (v := nI (j + 1)) (lv' := [(3, .int (nI (j + 1))), (0, .ref (ta G t (0))), (1, .int (nI r))]) hx hb dX3_callConstables_89 hl (k := 2) rfl (nI_1 j) (by decide) rfl (fun ls hl => ?_)
                refine lv_goto (tgt := 69) hx hb dX3_callConstables_92 (by decide) ?_
                exact ih69 (j + 1) (by omega) _ (rfl) _ (rfl) _ _ hP hS ls (lv_sub hl [1, 2, 0] rfl)
          exact lp69 (nO) 0 (by omega) _ (rfl) _ (rfl) _ _ hP hS ls (lv_sub hl [1, 2, 0] rfl)
        · have n20 := (mt (o_nle (a := nO) (b := k + 1) hz.2.2.1 rfl (by omega) (by omega)).mpr) c20; omega
      | succ d15 ih15 =>
        intro k hk15 x15_2 e15_2 x15_3 e15_3 ls hl
        subst e15_2
        subst e15_3
        have hj15 : k < nO - 1 := by omega
        have hwo := oWo_le τ r k
        refine lv_iload_n hx hb dX3_callConstables_15 rfl (lv_at hl 3 rfl) ?_
        refine lv_aload_n hx hb dX3_callConstables_16 rfl (lv_at hl 0 rfl) ?_
        refine va_get (D := G.1) (ci := 5) (v := .int (τ 18 0 1)) (C := RX3) (T := TX3) (N := 5) hx hb hts (fun w9 h9 => List.mem_cons_of_mem _ (List.mem_append_left _ (List.mem_append_left _ (List.mem_append_right _ (h9))))) hown hK hP (1 + 67 * t + (0)) (tw_T G Z ht τ) rfl 3 (by decide) (hts (.fieldLink RX3 29 "OrganCensus$Town" "organCount" "I") (List.mem_of_getElem? (i := 1) rfl)) (fun _ h9 => h9) rfl dX3_callConstables_17 ?_
        refine lv_icmp_ge (tgt := 56) hx hb dX3_callConstables_20 (by decide) (fun c20 => ?_) (fun c20 => ?_)
        · have n20 := (o_nle (a := nO) (b := k + 1) hz.2.2.1 rfl (by omega) (by omega)).mp c20; omega
        · have n20 := (mt (o_nle (a := nO) (b := k + 1) hz.2.2.1 rfl (by omega) (by omega)).mpr) c20
          refine lv_aload_n hx hb dX3_callConstables_23 rfl (lv_at hl 0 rfl) ?_
          refine va_get (D := G.1) (ci := 5) (v := .ref (ta G t (2))) (C := RX3) (T := TX3) (N := 5) hx hb hts (fun w9 h9 => List.mem_cons_of_mem _ (List.mem_append_left _ (List.mem_append_left _ (List.mem_append_right _ (h9))))) hown hK hP (1 + 67 * t + (0)) (tw_T G Z ht τ) rfl 1 (by decide) (hts (.fieldLink RX3 19 "OrganCensus$Town" "organs" "[LOrganCensus$Organ;") (List.mem_of_getElem? (i := 2) rfl)) (fun _ h9 => h9) rfl dX3_callConstables_24 ?_
          refine lv_iload_n hx hb dX3_callConstables_27 rfl (lv_at hl 3 rfl) ?_
          refine o_aald (k := k + 1) (C := RX0) hx hb hK hP (1 + 67 * t + (2)) 2 (tw_OA G Z ht τ) rfl rfl (by omega) (by decide) rfl dX3_callConstables_28 ?_
          refine va_get (D := G.1) (ci := 2) (v := .ref (ta G t (30 + 5 * (k + 1)))) (C := RX0) (T := TX0) (N := 12) hx hb hts (fun w9 h9 => List.mem_cons_of_mem _ (List.mem_append_left _ (List.mem_append_right _ (h9)))) hown hK hP (1 + 67 * t + (27 + 5 * (k + 1))) (tw_O G Z ht τ (by omega)) rfl 2 (by decide) (hts (.fieldLink RX3 126 "OrganCensus$Organ" "complaints" "[I") (List.mem_of_getElem? (i := 3) rfl)) (fun _ h9 => h9) rfl dX3_callConstables_29 ?_
          refine lv_iload_n hx hb dX3_callConstables_32 rfl (lv_at hl 1 rfl) ?_
          refine o_iald (k := r) hx hb hK hP (1 + 67 * t + (30 + 5 * (k + 1))) 0 (tw_Oc G Z ht τ (by omega)) rfl rfl (by omega) (by decide) dX3_callConstables_33 ?_
          refine lv_aload_n hx hb dX3_callConstables_34 rfl (lv_at hl 0 rfl) ?_
          refine va_get (D := G.1) (ci := 5) (v := .ref (ta G t (2))) (C := RX3) (T := TX3) (N := 5) hx hb hts (fun w9 h9 => List.mem_cons_of_mem _ (List.mem_append_left _ (List.mem_append_left _ (List.mem_append_right _ (h9))))) hown hK hP (1 + 67 * t + (0)) (tw_T G Z ht τ) rfl 1 (by decide) (hts (.fieldLink RX3 19 "OrganCensus$Town" "organs" "[LOrganCensus$Organ;") (List.mem_of_getElem? (i := 2) rfl)) (fun _ h9 => h9) rfl dX3_callConstables_35 ?_
          refine lv_iload_n hx hb dX3_callConstables_38 rfl (lv_at hl 2 rfl) ?_
          refine o_aald (k := oWo τ r k) (C := RX0) hx hb hK hP (1 + 67 * t + (2)) 2 (tw_OA G Z ht τ) rfl rfl (by have := oWo_le τ r k; omega) (by decide) rfl dX3_callConstables_39 ?_
          refine va_get (D := G.1) (ci := 2) (v := .ref (ta G t (30 + 5 * (oWo τ r k)))) (C := RX0) (T := TX0) (N := 12) hx hb hts (fun w9 h9 => List.mem_cons_of_mem _ (List.mem_append_left _ (List.mem_append_right _ (h9)))) hown hK hP (1 + 67 * t + (27 + 5 * (oWo τ r k))) (tw_O G Z ht τ (by omega)) rfl 2 (by decide) (hts (.fieldLink RX3 126 "OrganCensus$Organ" "complaints" "[I") (List.mem_of_getElem? (i := 3) rfl)) (fun _ h9 => h9) rfl dX3_callConstables_40 ?_
          refine lv_iload_n hx hb dX3_callConstables_43 rfl (lv_at hl 1 rfl) ?_
          refine o_iald (k := r) hx hb hK hP (1 + 67 * t + (30 + 5 * (oWo τ r k))) 0 (tw_Oc G Z ht τ (by omega)) rfl rfl (by omega) (by decide) dX3_callConstables_44 ?_
          refine lv_icmp_le (tgt := 50) hx hb dX3_callConstables_45 (by decide) (fun c45 => ?_) (fun c45 => ?_)
          · refine lv_iinc (v := nI ((k + 1) + 1)) (lv' := [(3, .int (nI ((k + 1) + 1))), (0, .ref (ta G t (0))), (1, .int (nI r)), (2, .int (nI (oWo τ r k)))]) hx hb dX3_callConstables_50 hl (k := 3) rfl (nI_1 (k + 1)) (by decide) rfl (fun ls hl => ?_)
            refine lv_goto (tgt := 15) hx hb dX3_callConstables_53 (by decide) ?_
            exact ih15 (k + 1) (by omega) _ (by simp [oWo, c7, c20, c45]) _ (by simp [oWo, c7, c20, c45]) ls (lv_sub hl [1, 2, 3, 0] rfl)
          · refine lv_iload_n hx hb dX3_callConstables_48 rfl (lv_at hl 3 rfl) ?_
            refine lv_istore_n (lv' := [(2, .int (nI (k + 1))), (0, .ref (ta G t (0))), (1, .int (nI r)), (3, .int (nI (k + 1)))]) hx hb dX3_callConstables_49 rfl hl (by decide) rfl (fun ls hl => ?_)
            refine lv_iinc (v := nI ((k + 1) + 1)) (lv' := [(3, .int (nI ((k + 1) + 1))), (2, .int (nI (k + 1))), (0, .ref (ta G t (0))), (1, .int (nI r))]) hx hb dX3_callConstables_50 hl (k := 3) rfl (nI_1 (k + 1)) (by decide) rfl (fun ls hl => ?_)
            refine lv_goto (tgt := 15) hx hb dX3_callConstables_53 (by decide) ?_
            exact ih15 (k + 1) (by omega) _ (by simp [oWo, c7, c20, c45]) _ (by simp [oWo, c7, c20, c45]) ls (lv_sub hl [2, 3, 1, 0] rfl)
    exact lp15 (nO - 1) 0 (by omega) _ (rfl) _ (rfl) ls (lv_sub hl [2, 3, 1, 0] rfl)
  · exact o_vretM hx hb hr hlocks hS dX3_callConstables_10 (by first | (subst hk15; subst hk69; simp only [oConst, c7, if_true]; exact hP) | (simp only [oConst, c7, if_false]; exact hP))
set_option maxHeartbeats 4000000 in
set_option maxRecDepth 100000 in
theorem m_X3_passHour (l : Launch) (G : oG) (Z : oZ) {t : Nat} (ht : t < 2) (hI : wl_I G.2.1 137) (τ : oT) (nS : Nat) (nO : Nat) (nH : Nat) (hz : oOK τ nS nO nH) : Met l yX3_passHour wsX3_passHour ({ frames := 4, cells := 0, slots := 0, locals := 95 } : Room) (va_Pc [.ref (ta G t (0))] (PW G (tw G Z t τ))) (oQ (some (.int (oHourN τ nS nO nH))) (fun H9 => va_P G.1 vwCl (tw G Z t (oHour τ nS nO nH)) H9) (oA G)) 0 0 (oA G) := by
  refine o_body (cc := cX3_passHour) (by decide +kernel) rfl (Nat.le_of_ble_eq_true rfl) ?_
  intro p e s m below meth c ls hx hb hml hr hlocks hown hts hP hK hN hl
  have hown : s.vm.findClass RX3 = some m.cls := hown
  have hl : lv_has ls 3 [(0, .ref (ta G t (0)))] := hl
  have hS : va_S (oA G) s.heap s.heap [] := va_S.rf
  obtain ⟨hz1, hz2, hz3, hz4, hz5, hz6, hz7⟩ := id hz
  refine lv_iconst (v := 0) hx hb dX3_passHour_0 (by decide) ?_
  refine lv_istore_n (lv' := [(1, .int 0), (0, .ref (ta G t (0)))]) hx hb dX3_passHour_1 rfl hl (by decide) rfl (fun ls hl => ?_)
  refine lv_iconst (v := 0) hx hb dX3_passHour_2 (by decide) ?_
  refine lv_istore_n (lv' := [(2, .int 0), (1, .int 0), (0, .ref (ta G t (0)))]) hx hb dX3_passHour_3 rfl hl (by decide) rfl (fun ls hl => ?_)
  have lp4 : ∀ (d4 k : Nat), k + d4 = nS → ∀ x4_1 : Int32, x4_1 = ((oP1 τ nO nH k).2) → ∀ x4_2 : Int32, x4_2 = (nI k) → ∀ (τ4 : oT), τ4 = ((oP1 τ nO nH k).1) → ∀ (H : Heap) (locs : List Loc), va_P G.1 vwCl (tw G Z t τ4) H → va_S (oA G) s.heap H locs → ∀ ls : Array Slot, lv_has ls 3 [(0, .ref (ta G t (0))), (1, .int x4_1), (2, .int x4_2)] → W p l e ({ frames := 4, cells := 0, slots := 0, locals := 95 } : Room) s m ([.ref (ta G t (0))] : List Value).toArray below meth c H locs 0 0 (MQ below (oQ (some (.int (oHourN τ nS nO nH))) (fun H9 => va_P G.1 vwCl (tw G Z t (oHour τ nS nO nH)) H9) (oA G)) ([.ref (ta G t (0))] : List Value).toArray s 0 0 (oA G)) (F0 m 4 ls []) := by
    intro d4
    induction d4 with
    | zero =>
      intro k hk4 x4_1 e4_1 x4_2 e4_2 τ4 eτ4 H locs hP hS ls hl
      subst e4_1
      subst e4_2
      subst eτ4
      have hz4 : oOK ((oP1 τ nO nH k).1) nS nO nH := hz.of (oP1_kp _ _ _ _)
      have hk4 : k = nS := by omega
      refine lv_iload_n hx hb dX3_passHour_4 rfl (lv_at hl 2 rfl) ?_
      refine lv_aload_n hx hb dX3_passHour_5 rfl (lv_at hl 0 rfl) ?_
      refine va_get (D := G.1) (ci := 5) (v := .int (((oP1 τ nO nH k).1) 18 0 0)) (C := RX3) (T := TX3) (N := 5) hx hb hts (fun w9 h9 => List.mem_cons_of_mem _ (List.mem_append_left _ (List.mem_append_left _ (List.mem_append_right _ (h9))))) hown hK hP (1 + 67 * t + (0)) (tw_T G Z ht ((oP1 τ nO nH k).1)) rfl 2 (by decide) (hts (.fieldLink RX3 25 "OrganCensus$Town" "streetCount" "I") (List.mem_of_getElem? (i := 1) rfl)) (fun _ h9 => h9) rfl dX3_passHour_6 ?_
      refine lv_icmp_ge (tgt := 26) hx hb dX3_passHour_9 (by decide) (fun c9 => ?_) (fun c9 => ?_)
      · have n9 := (o_nle (a := nS) (b := k) hz4.1 rfl (by omega) (by omega)).mp c9
        refine lv_iconst (v := 0) hx hb dX3_passHour_26 (by decide) ?_
        refine lv_istore_n (lv' := [(2, .int 0), (0, .ref (ta G t (0))), (1, .int ((oP1 τ nO nH k).2))]) hx hb dX3_passHour_27 rfl hl (by decide) rfl (fun ls hl => ?_)
        have lp28 : ∀ (d28 k2 : Nat), k2 + d28 = nS → ∀ x28_2 : Int32, x28_2 = (nI k2) → ∀ (τ28 : oT), τ28 = (oP2 (oP1 τ nO nH k).1 nO k2) → ∀ (H : Heap) (locs : List Loc), va_P G.1 vwCl (tw G Z t τ28) H → va_S (oA G) s.heap H locs → ∀ ls : Array Slot, lv_has ls 3 [(0, .ref (ta G t (0))), (1, .int ((oP1 τ nO nH k).2)), (2, .int x28_2)] → W p l e ({ frames := 4, cells := 0, slots := 0, locals := 95 } : Room) s m ([.ref (ta G t (0))] : List Value).toArray below meth c H locs 0 0 (MQ below (oQ (some (.int (oHourN τ nS nO nH))) (fun H9 => va_P G.1 vwCl (tw G Z t (oHour τ nS nO nH)) H9) (oA G)) ([.ref (ta G t (0))] : List Value).toArray s 0 0 (oA G)) (F0 m 28 ls []) := by
          intro d28
          induction d28 with
          | zero =>
            intro k2 hk28 x28_2 e28_2 τ28 eτ28 H locs hP hS ls hl
            subst e28_2
            subst eτ28
            have hz28 : oOK (oP2 (oP1 τ nO nH k).1 nO k2) nS nO nH := hz4.of (oP2_kp _ _ _)
            have hk28 : k2 = nS := by omega
            refine lv_iload_n hx hb dX3_passHour_28 rfl (lv_at hl 2 rfl) ?_
            refine lv_aload_n hx hb dX3_passHour_29 rfl (lv_at hl 0 rfl) ?_
            refine va_get (D := G.1) (ci := 5) (v := .int ((oP2 (oP1 τ nO nH k).1 nO k2) 18 0 0)) (C := RX3) (T := TX3) (N := 5) hx hb hts (fun w9 h9 => List.mem_cons_of_mem _ (List.mem_append_left _ (List.mem_append_left _ (List.mem_append_right _ (h9))))) hown hK hP (1 + 67 * t + (0)) (tw_T G Z ht (oP2 (oP1 τ nO nH k).1 nO k2)) rfl 2 (by decide) (hts (.fieldLink RX3 25 "OrganCensus$Town" "streetCount" "I") (List.mem_of_getElem? (i := 1) rfl)) (fun _ h9 => h9) rfl dX3_passHour_30 ?_
            refine lv_icmp_ge (tgt := 47) hx hb dX3_passHour_33 (by decide) (fun c33 => ?_) (fun c33 => ?_)
            · have n33 := (o_nle (a := nS) (b := k2) hz28.1 rfl (by omega) (by omega)).mp c33
              refine lv_aload_n hx hb dX3_passHour_47 rfl (lv_at hl 0 rfl) ?_
              refine o_cVmv (q0 := 1 + 67 * t + (0)) (ci := 5) [] [] ⟨hx, hb, hml, hown, hts⟩ (m_X3_turnBarrels l G Z ht hI (oP2 (oP1 τ nO nH k).1 nO k2) nS nO nH hz28) (cwV 0 hts gX3_passHour_X3_turnBarrels rfl rfl rfl (by decide +kernel) ⟨Nat.le_of_ble_eq_true rfl, Nat.le_of_ble_eq_true rfl⟩) hK hN hP hS rfl rfl (tw_T G Z ht (oP2 (oP1 τ nO nH k).1 nO k2)) rfl hl.1 rfl (Nat.le_of_ble_eq_true rfl) dX3_passHour_48 ⟨Nat.zero_le _, Nat.zero_le _⟩ (fun H locs hP hS => ?_)
              refine lv_iconst (v := 0) hx hb dX3_passHour_51 (by decide) ?_
              refine lv_istore_n (lv' := [(2, .int 0), (0, .ref (ta G t (0))), (1, .int ((oP1 τ nO nH k).2))]) hx hb dX3_passHour_52 rfl hl (by decide) rfl (fun ls hl => ?_)
              have lp53 : ∀ (d53 k3 : Nat), k3 + d53 = nS → ∀ x53_2 : Int32, x53_2 = (nI k3) → ∀ (τ53 : oT), τ53 = (oP4 (oTb (oP2 (oP1 τ nO nH k).1 nO k2) nO) nS nO k3) → ∀ (H : Heap) (locs : List Loc), va_P G.1 vwCl (tw G Z t τ53) H → va_S (oA G) s.heap H locs → ∀ ls : Array Slot, lv_has ls 3 [(0, .ref (ta G t (0))), (1, .int ((oP1 τ nO nH k).2)), (2, .int x53_2)] → W p l e ({ frames := 4, cells := 0, slots := 0, locals := 95 } : Room) s m ([.ref (ta G t (0))] : List Value).toArray below meth c H locs 0 0 (MQ below (oQ (some (.int (oHourN τ nS nO nH))) (fun H9 => va_P G.1 vwCl (tw G Z t (oHour τ nS nO nH)) H9) (oA G)) ([.ref (ta G t (0))] : List Value).toArray s 0 0 (oA G)) (F0 m 53 ls []) := by
                intro d53
                induction d53 with
                | zero =>
                  intro k3 hk53 x53_2 e53_2 τ53 eτ53 H locs hP hS ls hl
                  subst e53_2
                  subst eτ53
                  have hz53 : oOK (oP4 (oTb (oP2 (oP1 τ nO nH k).1 nO k2) nO) nS nO k3) nS nO nH := (hz28.of (oTb_kp _ _)).of (oP4_kp _ _ _ _)
                  have hk53 : k3 = nS := by omega
                  refine lv_iload_n hx hb dX3_passHour_53 rfl (lv_at hl 2 rfl) ?_
                  refine lv_aload_n hx hb dX3_passHour_54 rfl (lv_at hl 0 rfl) ?_
                  refine va_get (D := G.1) (ci := 5) (v := .int ((oP4 (oTb (oP2 (oP1 τ nO nH k).1 nO k2) nO) nS nO k3) 18 0 0)) (C := RX3) (T := TX3) (N := 5) hx hb hts (fun w9 h9 => List.mem_cons_of_mem _ (List.mem_append_left _ (List.mem_append_left _ (List.mem_append_right _ (h9))))) hown hK hP (1 + 67 * t + (0)) (tw_T G Z ht (oP4 (oTb (oP2 (oP1 τ nO nH k).1 nO k2) nO) nS nO k3)) rfl 2 (by decide) (hts (.fieldLink RX3 25 "OrganCensus$Town" "streetCount" "I") (List.mem_of_getElem? (i := 1) rfl)) (fun _ h9 => h9) rfl dX3_passHour_55 ?_
                  refine lv_icmp_ge (tgt := 72) hx hb dX3_passHour_58 (by decide) (fun c58 => ?_) (fun c58 => ?_)
                  · have n58 := (o_nle (a := nS) (b := k3) hz53.1 rfl (by omega) (by omega)).mp c58
                    refine lv_iconst (v := 0) hx hb dX3_passHour_72 (by decide) ?_
                    refine lv_istore_n (lv' := [(2, .int 0), (0, .ref (ta G t (0))), (1, .int ((oP1 τ nO nH k).2))]) hx hb dX3_passHour_73 rfl hl (by decide) rfl (fun ls hl => ?_)
                    have lp74 : ∀ (d74 k5 : Nat), k5 + d74 = nO → ∀ x74_2 : Int32, x74_2 = (nI k5) → ∀ (τ74 : oT), τ74 = (oP5 (oP4 (oTb (oP2 (oP1 τ nO nH k).1 nO k2) nO) nS nO k3) k5) → ∀ (H : Heap) (locs : List Loc), va_P G.1 vwCl (tw G Z t τ74) H → va_S (oA G) s.heap H locs → ∀ ls : Array Slot, lv_has ls 3 [(0, .ref (ta G t (0))), (1, .int ((oP1 τ nO nH k).2)), (2, .int x74_2)] → W p l e ({ frames := 4, cells := 0, slots := 0, locals := 95 } : Room) s m ([.ref (ta G t (0))] : List Value).toArray below meth c H locs 0 0 (MQ below (oQ (some (.int (oHourN τ nS nO nH))) (fun H9 => va_P G.1 vwCl (tw G Z t (oHour τ nS nO nH)) H9) (oA G)) ([.ref (ta G t (0))] : List Value).toArray s 0 0 (oA G)) (F0 m 74 ls []) := by
                      intro d74
                      induction d74 with
                      | zero =>
                        intro k5 hk74 x74_2 e74_2 τ74 eτ74 H locs hP hS ls hl
                        subst e74_2
                        subst eτ74
                        have hz74 : oOK (oP5 (oP4 (oTb (oP2 (oP1 τ nO nH k).1 nO k2) nO) nS nO k3) k5) nS nO nH := hz53.of (oP5_kp _ _)
                        have hk74 : k5 = nO := by omega
                        refine lv_iload_n hx hb dX3_passHour_74 rfl (lv_at hl 2 rfl) ?_
                        refine lv_aload_n hx hb dX3_passHour_75 rfl (lv_at hl 0 rfl) ?_
                        refine va_get (D := G.1) (ci := 5) (v := .int ((oP5 (oP4 (oTb (oP2 (oP1 τ nO nH k).1 nO k2) nO) nS nO k3) k5) 18 0 1)) (C := RX3) (T := TX3) (N := 5) hx hb hts (fun w9 h9 => List.mem_cons_of_mem _ (List.mem_append_left _ (List.mem_append_left _ (List.mem_append_right _ (h9))))) hown hK hP (1 + 67 * t + (0)) (tw_T G Z ht (oP5 (oP4 (oTb (oP2 (oP1 τ nO nH k).1 nO k2) nO) nS nO k3) k5)) rfl 3 (by decide) (hts (.fieldLink RX3 29 "OrganCensus$Town" "organCount" "I") (List.mem_of_getElem? (i := 2) rfl)) (fun _ h9 => h9) rfl dX3_passHour_76 ?_
                        refine lv_icmp_ge (tgt := 97) hx hb dX3_passHour_79 (by decide) (fun c79 => ?_) (fun c79 => ?_)
                        · have n79 := (o_nle (a := nO) (b := k5) hz74.2.2.1 rfl (by omega) (by omega)).mp c79
                          refine lv_aload_n hx hb dX3_passHour_97 rfl (lv_at hl 0 rfl) ?_
                          refine lv_dup hx hb dX3_passHour_98 rfl ?_
                          refine va_get (D := G.1) (ci := 5) (v := .int ((oP5 (oP4 (oTb (oP2 (oP1 τ nO nH k).1 nO k2) nO) nS nO k3) k5) 18 0 2)) (C := RX3) (T := TX3) (N := 5) hx hb hts (fun w9 h9 => List.mem_cons_of_mem _ (List.mem_append_left _ (List.mem_append_left _ (List.mem_append_right _ (h9))))) hown hK hP (1 + 67 * t + (0)) (tw_T G Z ht (oP5 (oP4 (oTb (oP2 (oP1 τ nO nH k).1 nO k2) nO) nS nO k3) k5)) rfl 4 (by decide) (hts (.fieldLink RX3 32 "OrganCensus$Town" "hour" "I") (List.mem_of_getElem? (i := 4) rfl)) (fun _ h9 => h9) rfl dX3_passHour_99 ?_
                          refine lv_iconst (v := 1) hx hb dX3_passHour_102 (by decide) ?_
                          refine lv_iadd hx hb dX3_passHour_103 ?_
                          refine va_put (D := G.1) (ci := 5) (v := .int (((oP5 (oP4 (oTb (oP2 (oP1 τ nO nH k).1 nO k2) nO) nS nO k3) k5) 18 0 2) + 1)) (ty := .int) (C := RX3) (T := TX3) (N := 5) hx hb hts (fun w9 h9 => List.mem_cons_of_mem _ (List.mem_append_left _ (List.mem_append_left _ (List.mem_append_right _ (h9))))) tyX3 tyX3_ok nmX3 hown hK hP (tw_D G Z t _ hI) hS (1 + 67 * t + (0)) (tw_T G Z ht (oP5 (oP4 (oTb (oP2 (oP1 τ nO nH k).1 nO k2) nO) nS nO k3) k5)) rfl 4 (by decide) (hts (.fieldLink RX3 32 "OrganCensus$Town" "hour" "I") (List.mem_of_getElem? (i := 4) rfl)) (fun _ h9 => h9) rfl (by decide +kernel) rfl rfl (Nat.le_of_ble_eq_true rfl) dX3_passHour_104 (fun H locs hP hD hS => ?_)
                          have hP : va_P G.1 vwCl (tw G Z t (su (oP5 (oP4 (oTb (oP2 (oP1 τ nO nH k).1 nO k2) nO) nS nO k3) k5) 18 0 2 (((oP5 (oP4 (oTb (oP2 (oP1 τ nO nH k).1 nO k2) nO) nS nO k3) k5) 18 0 2) + 1))) H := by rw [← tw_uT2 G Z ht (oP5 (oP4 (oTb (oP2 (oP1 τ nO nH k).1 nO k2) nO) nS nO k3) k5) (((oP5 (oP4 (oTb (oP2 (oP1 τ nO nH k).1 nO k2) nO) nS nO k3) k5) 18 0 2) + 1)]; exact hP
                          clear hD
                          refine lv_iload_n hx hb dX3_passHour_107 rfl (lv_at hl 1 rfl) ?_
                          exact o_iretM hx hb hr hlocks hS dX3_passHour_108 (by subst hk4; subst hk28; subst hk53; subst hk74; exact hP) (by subst hk4; rfl)
                        · have n79 := (mt (o_nle (a := nO) (b := k5) hz74.2.2.1 rfl (by omega) (by omega)).mpr) c79; omega
                      | succ d74 ih74 =>
                        intro k5 hk74 x74_2 e74_2 τ74 eτ74 H locs hP hS ls hl
                        subst e74_2
                        subst eτ74
                        have hz74 : oOK (oP5 (oP4 (oTb (oP2 (oP1 τ nO nH k).1 nO k2) nO) nS nO k3) k5) nS nO nH := hz53.of (oP5_kp _ _)
                        have hj74 : k5 < nO := by omega
                        refine lv_iload_n hx hb dX3_passHour_74 rfl (lv_at hl 2 rfl) ?_
                        refine lv_aload_n hx hb dX3_passHour_75 rfl (lv_at hl 0 rfl) ?_
                        refine va_get (D := G.1) (ci := 5) (v := .int ((oP5 (oP4 (oTb (oP2 (oP1 τ nO nH k).1 nO k2) nO) nS nO k3) k5) 18 0 1)) (C := RX3) (T := TX3) (N := 5) hx hb hts (fun w9 h9 => List.mem_cons_of_mem _ (List.mem_append_left _ (List.mem_append_left _ (List.mem_append_right _ (h9))))) hown hK hP (1 + 67 * t + (0)) (tw_T G Z ht (oP5 (oP4 (oTb (oP2 (oP1 τ nO nH k).1 nO k2) nO) nS nO k3) k5)) rfl 3 (by decide) (hts (.fieldLink RX3 29 "OrganCensus$Town" "organCount" "I") (List.mem_of_getElem? (i := 2) rfl)) (fun _ h9 => h9) rfl dX3_passHour_76 ?_
                        refine lv_icmp_ge (tgt := 97) hx hb dX3_passHour_79 (by decide) (fun c79 => ?_) (fun c79 => ?_)
                        · have n79 := (o_nle (a := nO) (b := k5) hz74.2.2.1 rfl (by omega) (by omega)).mp c79; omega
                        · have n79 := (mt (o_nle (a := nO) (b := k5) hz74.2.2.1 rfl (by omega) (by omega)).mpr) c79
                          refine lv_aload_n hx hb dX3_passHour_82 rfl (lv_at hl 0 rfl) ?_
                          refine va_get (D := G.1) (ci := 5) (v := .ref (ta G t (2))) (C := RX3) (T := TX3) (N := 5) hx hb hts (fun w9 h9 => List.mem_cons_of_mem _ (List.mem_append_left _ (List.mem_append_left _ (List.mem_append_right _ (h9))))) hown hK hP (1 + 67 * t + (0)) (tw_T G Z ht (oP5 (oP4 (oTb (oP2 (oP1 τ nO nH k).1 nO k2) nO) nS nO k3) k5)) rfl 1 (by decide) (hts (.fieldLink RX3 19 "OrganCensus$Town" "organs" "[LOrganCensus$Organ;") (List.mem_of_getElem? (i := 3) rfl)) (fun _ h9 => h9) rfl dX3_passHour_83 ?_
                          refine lv_iload_n hx hb dX3_passHour_86 rfl (lv_at hl 2 rfl) ?_
                          refine o_aald (k := k5) (C := RX0) hx hb hK hP (1 + 67 * t + (2)) 2 (tw_OA G Z ht (oP5 (oP4 (oTb (oP2 (oP1 τ nO nH k).1 nO k2) nO) nS nO k3) k5)) rfl rfl (by omega) (by decide) rfl dX3_passHour_87 ?_
                          refine o_cVmv (q0 := 1 + 67 * t + (27 + 5 * k5)) (ci := 2) [] [] ⟨hx, hb, hml, hown, hts⟩ (m_X0_anHourLess l G Z ht hI (oP5 (oP4 (oTb (oP2 (oP1 τ nO nH k).1 nO k2) nO) nS nO k3) k5) k5 (by omega)) (cwV 0 hts gX3_passHour_X0_anHourLess rfl rfl rfl (by decide +kernel) ⟨Nat.le_of_ble_eq_true rfl, Nat.le_of_ble_eq_true rfl⟩) hK hN hP hS rfl rfl (tw_O G Z ht (oP5 (oP4 (oTb (oP2 (oP1 τ nO nH k).1 nO k2) nO) nS nO k3) k5) (by omega)) rfl hl.1 rfl (Nat.le_of_ble_eq_true rfl) dX3_passHour_88 ⟨Nat.zero_le _, Nat.zero_le _⟩ (fun H locs hP hS => ?_)
                          refine lv_iinc (v := nI (k5 + 1)) (lv' := [(2, .int (nI (k5 + 1))), (0, .ref (ta G t (0))), (1, .int ((oP1 τ nO nH k).2))]) hx hb dX3_passHour_91 hl (k := 2) rfl (nI_1 k5) (by decide) rfl (fun ls hl => ?_)
                          refine lv_goto (tgt := 74) hx hb dX3_passHour_94 (by decide) ?_
                          exact ih74 (k5 + 1) (by omega) _ (rfl) _ (rfl) _ _ hP hS ls (lv_sub hl [1, 2, 0] rfl)
                    exact lp74 (nO) 0 (by omega) _ (rfl) _ (rfl) _ _ hP hS ls (lv_sub hl [1, 2, 0] rfl)
                  · have n58 := (mt (o_nle (a := nS) (b := k3) hz53.1 rfl (by omega) (by omega)).mpr) c58; omega
                | succ d53 ih53 =>
                  intro k3 hk53 x53_2 e53_2 τ53 eτ53 H locs hP hS ls hl
                  subst e53_2
                  subst eτ53
                  have hz53 : oOK (oP4 (oTb (oP2 (oP1 τ nO nH k).1 nO k2) nO) nS nO k3) nS nO nH := (hz28.of (oTb_kp _ _)).of (oP4_kp _ _ _ _)
                  have hj53 : k3 < nS := by omega
                  refine lv_iload_n hx hb dX3_passHour_53 rfl (lv_at hl 2 rfl) ?_
                  refine lv_aload_n hx hb dX3_passHour_54 rfl (lv_at hl 0 rfl) ?_
                  refine va_get (D := G.1) (ci := 5) (v := .int ((oP4 (oTb (oP2 (oP1 τ nO nH k).1 nO k2) nO) nS nO k3) 18 0 0)) (C := RX3) (T := TX3) (N := 5) hx hb hts (fun w9 h9 => List.mem_cons_of_mem _ (List.mem_append_left _ (List.mem_append_left _ (List.mem_append_right _ (h9))))) hown hK hP (1 + 67 * t + (0)) (tw_T G Z ht (oP4 (oTb (oP2 (oP1 τ nO nH k).1 nO k2) nO) nS nO k3)) rfl 2 (by decide) (hts (.fieldLink RX3 25 "OrganCensus$Town" "streetCount" "I") (List.mem_of_getElem? (i := 1) rfl)) (fun _ h9 => h9) rfl dX3_passHour_55 ?_
                  refine lv_icmp_ge (tgt := 72) hx hb dX3_passHour_58 (by decide) (fun c58 => ?_) (fun c58 => ?_)
                  · have n58 := (o_nle (a := nS) (b := k3) hz53.1 rfl (by omega) (by omega)).mp c58; omega
                  · have n58 := (mt (o_nle (a := nS) (b := k3) hz53.1 rfl (by omega) (by omega)).mpr) c58
                    refine lv_aload_n hx hb dX3_passHour_61 rfl (lv_at hl 0 rfl) ?_
                    refine lv_iload_n hx hb dX3_passHour_62 rfl (lv_at hl 2 rfl) ?_
                    refine o_cVmv (q0 := 1 + 67 * t + (0)) (ci := 5) [.int (nI k3)] [] ⟨hx, hb, hml, hown, hts⟩ (m_X3_callConstables l G Z ht hI (oP4 (oTb (oP2 (oP1 τ nO nH k).1 nO k2) nO) nS nO k3) nS nO nH hz53 k3 (nI k3) (rfl) (by omega)) (cwV 1 hts gX3_passHour_X3_callConstables rfl rfl rfl (by decide +kernel) ⟨Nat.le_of_ble_eq_true rfl, Nat.le_of_ble_eq_true rfl⟩) hK hN hP hS rfl rfl (tw_T G Z ht (oP4 (oTb (oP2 (oP1 τ nO nH k).1 nO k2) nO) nS nO k3)) rfl hl.1 rfl (Nat.le_of_ble_eq_true rfl) dX3_passHour_63 ⟨Nat.zero_le _, Nat.zero_le _⟩ (fun H locs hP hS => ?_)
                    refine lv_iinc (v := nI (k3 + 1)) (lv' := [(2, .int (nI (k3 + 1))), (0, .ref (ta G t (0))), (1, .int ((oP1 τ nO nH k).2))]) hx hb dX3_passHour_66 hl (k := 2) rfl (nI_1 k3) (by decide) rfl (fun ls hl => ?_)
                    refine lv_goto (tgt := 53) hx hb dX3_passHour_69 (by decide) ?_
                    exact ih53 (k3 + 1) (by omega) _ (rfl) _ (rfl) _ _ hP hS ls (lv_sub hl [1, 2, 0] rfl)
              exact lp53 (nS) 0 (by omega) _ (rfl) _ (rfl) _ _ hP hS ls (lv_sub hl [1, 2, 0] rfl)
            · have n33 := (mt (o_nle (a := nS) (b := k2) hz28.1 rfl (by omega) (by omega)).mpr) c33; omega
          | succ d28 ih28 =>
            intro k2 hk28 x28_2 e28_2 τ28 eτ28 H locs hP hS ls hl
            subst e28_2
            subst eτ28
            have hz28 : oOK (oP2 (oP1 τ nO nH k).1 nO k2) nS nO nH := hz4.of (oP2_kp _ _ _)
            have hj28 : k2 < nS := by omega
            refine lv_iload_n hx hb dX3_passHour_28 rfl (lv_at hl 2 rfl) ?_
            refine lv_aload_n hx hb dX3_passHour_29 rfl (lv_at hl 0 rfl) ?_
            refine va_get (D := G.1) (ci := 5) (v := .int ((oP2 (oP1 τ nO nH k).1 nO k2) 18 0 0)) (C := RX3) (T := TX3) (N := 5) hx hb hts (fun w9 h9 => List.mem_cons_of_mem _ (List.mem_append_left _ (List.mem_append_left _ (List.mem_append_right _ (h9))))) hown hK hP (1 + 67 * t + (0)) (tw_T G Z ht (oP2 (oP1 τ nO nH k).1 nO k2)) rfl 2 (by decide) (hts (.fieldLink RX3 25 "OrganCensus$Town" "streetCount" "I") (List.mem_of_getElem? (i := 1) rfl)) (fun _ h9 => h9) rfl dX3_passHour_30 ?_
            refine lv_icmp_ge (tgt := 47) hx hb dX3_passHour_33 (by decide) (fun c33 => ?_) (fun c33 => ?_)
            · have n33 := (o_nle (a := nS) (b := k2) hz28.1 rfl (by omega) (by omega)).mp c33; omega
            · have n33 := (mt (o_nle (a := nS) (b := k2) hz28.1 rfl (by omega) (by omega)).mpr) c33
              refine lv_aload_n hx hb dX3_passHour_36 rfl (lv_at hl 0 rfl) ?_
              refine lv_iload_n hx hb dX3_passHour_37 rfl (lv_at hl 2 rfl) ?_
              refine o_cVmv (q0 := 1 + 67 * t + (0)) (ci := 5) [.int (nI k2)] [] ⟨hx, hb, hml, hown, hts⟩ (m_X3_tireEars l G Z ht hI (oP2 (oP1 τ nO nH k).1 nO k2) nS nO nH hz28 k2 (nI k2) (rfl) (by omega)) (cwV 1 hts gX3_passHour_X3_tireEars rfl rfl rfl (by decide +kernel) ⟨Nat.le_of_ble_eq_true rfl, Nat.le_of_ble_eq_true rfl⟩) hK hN hP hS rfl rfl (tw_T G Z ht (oP2 (oP1 τ nO nH k).1 nO k2)) rfl hl.1 rfl (Nat.le_of_ble_eq_true rfl) dX3_passHour_38 ⟨Nat.zero_le _, Nat.zero_le _⟩ (fun H locs hP hS => ?_)
              refine lv_iinc (v := nI (k2 + 1)) (lv' := [(2, .int (nI (k2 + 1))), (0, .ref (ta G t (0))), (1, .int ((oP1 τ nO nH k).2))]) hx hb dX3_passHour_41 hl (k := 2) rfl (nI_1 k2) (by decide) rfl (fun ls hl => ?_)
              refine lv_goto (tgt := 28) hx hb dX3_passHour_44 (by decide) ?_
              exact ih28 (k2 + 1) (by omega) _ (rfl) _ (rfl) _ _ hP hS ls (lv_sub hl [1, 2, 0] rfl)
        exact lp28 (nS) 0 (by omega) _ (rfl) _ (rfl) _ _ hP hS ls (lv_sub hl [1, 2, 0] rfl)
      · have n9 := (mt (o_nle (a := nS) (b := k) hz4.1 rfl (by omega) (by omega)).mpr) c9; omega
    | succ d4 ih4 =>
      intro k hk4 x4_1 e4_1 x4_2 e4_2 τ4 eτ4 H locs hP hS ls hl
      subst e4_1
      subst e4_2
      subst eτ4
      have hz4 : oOK ((oP1 τ nO nH k).1) nS nO nH := hz.of (oP1_kp _ _ _ _)
      have hj4 : k < nS := by omega
      refine lv_iload_n hx hb dX3_passHour_4 rfl (lv_at hl 2 rfl) ?_
      refine lv_aload_n hx hb dX3_passHour_5 rfl (lv_at hl 0 rfl) ?_
      refine va_get (D := G.1) (ci := 5) (v := .int (((oP1 τ nO nH k).1) 18 0 0)) (C := RX3) (T := TX3) (N := 5) hx hb hts (fun w9 h9 => List.mem_cons_of_mem _ (List.mem_append_left _ (List.mem_append_left _ (List.mem_append_right _ (h9))))) hown hK hP (1 + 67 * t + (0)) (tw_T G Z ht ((oP1 τ nO nH k).1)) rfl 2 (by decide) (hts (.fieldLink RX3 25 "OrganCensus$Town" "streetCount" "I") (List.mem_of_getElem? (i := 1) rfl)) (fun _ h9 => h9) rfl dX3_passHour_6 ?_
      refine lv_icmp_ge (tgt := 26) hx hb dX3_passHour_9 (by decide) (fun c9 => ?_) (fun c9 => ?_)
      · have n9 := (o_nle (a := nS) (b := k) hz4.1 rfl (by omega) (by omega)).mp c9; omega
      · have n9 := (mt (o_nle (a := nS) (b := k) hz4.1 rfl (by omega) (by omega)).mpr) c9
        refine lv_iload_n hx hb dX3_passHour_12 rfl (lv_at hl 1 rfl) ?_
        refine lv_aload_n hx hb dX3_passHour_13 rfl (lv_at hl 0 rfl) ?_
        refine lv_iload_n hx hb dX3_passHour_14 rfl (lv_at hl 2 rfl) ?_
        refine o_cVmi (q0 := 1 + 67 * t + (0)) (ci := 5) [.int (nI k)] [.int ((oP1 τ nO nH k).2)] ⟨hx, hb, hml, hown, hts⟩ (m_X3_giveCoins l G Z ht hI ((oP1 τ nO nH k).1) nS nO nH hz4 k (nI k) (rfl) (by omega)) (cwV 1 hts gX3_passHour_X3_giveCoins rfl rfl rfl (by decide +kernel) ⟨Nat.le_of_ble_eq_true rfl, Nat.le_of_ble_eq_true rfl⟩) hK hN hP hS rfl rfl (tw_T G Z ht ((oP1 τ nO nH k).1)) rfl hl.1 rfl (Nat.le_of_ble_eq_true rfl) dX3_passHour_15 ⟨Nat.zero_le _, Nat.zero_le _⟩ (fun H locs hP hS => ?_)
        refine lv_iadd hx hb dX3_passHour_18 ?_
        refine lv_istore_n (lv' := [(1, .int (((oP1 τ nO nH k).2) + ((oGive ((oP1 τ nO nH k).1) nO k nH).2))), (0, .ref (ta G t (0))), (2, .int (nI k))]) hx hb dX3_passHour_19 rfl hl (by decide) rfl (fun ls hl => ?_)
        refine lv_iinc (v := nI (k + 1)) (lv' := [(2, .int (nI (k + 1))), (1, .int (((oP1 τ nO nH k).2) + ((oGive ((oP1 τ nO nH k).1) nO k nH).2))), (0, .ref (ta G t (0)))]) hx hb dX3_passHour_20 hl (k := 2) rfl (nI_1 k) (by decide) rfl (fun ls hl => ?_)
        refine lv_goto (tgt := 4) hx hb dX3_passHour_23 (by decide) ?_
        exact ih4 (k + 1) (by omega) _ (rfl) _ (rfl) _ (rfl) _ _ hP hS ls (lv_sub hl [2, 1, 0] rfl)
  exact lp4 (nS) 0 (by omega) _ (rfl) _ (rfl) _ (rfl) _ _ hP hS ls (lv_sub hl [2, 1, 0] rfl)
