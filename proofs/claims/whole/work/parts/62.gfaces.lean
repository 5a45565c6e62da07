set_option maxHeartbeats 4000000 in
set_option maxRecDepth 100000 in
theorem m_X6_organ (l : Launch) (G : oG) (hI : wl_I G.2.1 39) (α β γ : oT) (sz : Nat) (nS : Nat) (nO : Nat) (nH : Nat) (hz : qOK α nS nO nH) (x : Int32) (y : Int32) : Met l yX6_organ wsX6_organ ({ frames := 3, cells := 1, slots := 11, locals := 69 } : Room) (va_Pc [.ref (G.2.1 0), .int x, .int y] (PN G (mw G (z3 α β γ)) sz)) (oQ (some (.int (if cOrgan nO x y = 0 then mOT α nS nO (oN x) (oN y) else 0))) (fun H9 => va_P G.1 vwCl (mw G (z3 α β (mT γ (cOrgan nO x y)))) H9) (mN G sz)) 1 11 (mN G sz) := by
  refine oE_body (E := fun U => sz ≤ U.heap.size) (cc := cX6_organ) (by decide +kernel) rfl (Nat.le_of_ble_eq_true rfl) ?_
  intro p e s m below meth c ls hx hb hml hr hlocks hown hts hP hK hN hE hl
  have hown : s.vm.findClass RX6 = some m.cls := hown
  have hl : lv_has ls 3 [(0, .ref (G.2.1 0)), (1, .int x), (2, .int y)] := hl
  have hS : va_S (mN G sz) s.heap s.heap [] := va_S.rf
  have hK0 := hK
  have hE : sz ≤ s.heap.size := hE
  obtain ⟨hz1, hz2, hz3, hz4, hz5, hz6, hz7, hz8⟩ := id hz
  refine lv_aload_n hx hb dX6_organ_0 rfl (lv_at hl 0 rfl) ?_
  refine lv_iconst (v := 0) hx hb dX6_organ_1 (by decide) ?_
  refine va_put (D := G.1) (ci := 8) (v := .int 0) (ty := .int) (C := RX6) (T := TX6) (N := 6) hx hb hts (fun w9 h9 => List.mem_cons_of_mem _ (List.mem_append_left _ (List.mem_append_right _ (h9)))) tyX6 tyX6_ok nmX6 hown hK hP (mN_D hI) hS (0) (mw_M G (z3 α β γ)) rfl 0 (by decide) (hts (.fieldLink RX6 28 "OrganCensusModel" "thrown" "I") (List.mem_of_getElem? (i := 1) rfl)) (fun _ h9 => h9) rfl (by decide +kernel) rfl rfl (Nat.le_of_ble_eq_true rfl) dX6_organ_2 (fun H locs hP hD hS => ?_)
  have hP : va_P G.1 vwCl (mw G (z3 α β (su γ 41 0 0 0))) H := by rw [← (mw_zP (a := α) (b := β) (c := γ) (τ' := su γ 41 0 0 0) (mw_uM0 G (z3 α β γ) 0))]; exact hP
  clear hD
  refine lv_aload_n hx hb dX6_organ_5 rfl (lv_at hl 0 rfl) ?_
  refine lv_iload_n hx hb dX6_organ_6 rfl (lv_at hl 1 rfl) ?_
  refine o_cVi (q0 := 0) (ci := 8) [.int x] [] ⟨hx, hb, hml, hown, hts⟩ (m_X6_isOrgan l G α β (su γ 41 0 0 0) nS nO nH hz x) (cwV 1 hts gX6_organ_X6_isOrgan rfl rfl rfl (by decide +kernel) ⟨Nat.le_of_ble_eq_true rfl, Nat.le_of_ble_eq_true rfl⟩) hK hN hP rfl rfl (mw_M G (z3 α β (su γ 41 0 0 0))) rfl hl.1 rfl (Nat.le_of_ble_eq_true rfl) dX6_organ_7 ⟨(show 0 ≤ 1 by omega), (show 0 ≤ 11 by omega)⟩ ?_
  refine lv_if_eq (tgt := 32) hx hb dX6_organ_10 (by decide) (fun c10 => ?_) (fun c10 => ?_)
  · have c10 := bI_eq.mp c10
    refine lv_aload_n hx hb dX6_organ_32 rfl (lv_at hl 0 rfl) ?_
    refine lv_iconst (v := 1) hx hb dX6_organ_33 (by decide) ?_
    refine oM_cVi (q0 := 0) (ci := 8) [.int 1] [] ⟨hx, hb, hml, hown, hts⟩ (m_X6_no l G hI α β (su γ 41 0 0 0) 1) (cwV 1 hts gX6_organ_X6_no rfl rfl rfl (by decide +kernel) ⟨Nat.le_of_ble_eq_true rfl, Nat.le_of_ble_eq_true rfl⟩) hK hN hP hS (fun q h => Or.inl h) rfl rfl (mw_M G (z3 α β (su γ 41 0 0 0))) rfl hl.1 rfl (Nat.le_of_ble_eq_true rfl) dX6_organ_34 ⟨(show 0 ≤ 1 by omega), (show 0 ≤ 11 by omega)⟩ (fun H locs hP hS => ?_)
    refine o_widen (k := 1) (n := 11) (by omega) (by omega) ?_
    exact o_iretM hx hb hr hlocks hS dX6_organ_37 (by have hP9 := hP; simp (decide := true) only [cOrgan, mT, c10, Bool.true_and, Bool.and_true, Bool.false_and, Bool.and_false, Bool.false_eq_true, if_true, if_false, reduceIte, not_true_eq_false, not_false_eq_true, and_true, and_false, true_and, false_and, Nat.reduceEqDiff, reduceCtorEq]; first | exact hP9 | (rw [su_su] at hP9; exact hP9)) (by simp (decide := true) only [cOrgan, mT, c10, Bool.true_and, Bool.and_true, Bool.false_and, Bool.and_false, Bool.false_eq_true, if_true, if_false, reduceIte, not_true_eq_false, not_false_eq_true, and_true, and_false, true_and, false_and, Nat.reduceEqDiff, reduceCtorEq]; try rfl)
  · have c10 := bI_ne.mp c10
    have n10 := oIn_lt (by omega) c10
    refine lv_iload_n hx hb dX6_organ_13 rfl (lv_at hl 2 rfl) ?_
    refine lv_iconst (v := 0) hx hb dX6_organ_14 (by decide) ?_
    refine lv_bipush (v := 10) hx hb dX6_organ_15 (by decide) ?_
    refine o_cSi [.int y, .int 0, .int 10] [] ⟨hx, hb, hml, hown, hts⟩ (m_X6_isIn l G (mw G (z3 α β (su γ 41 0 0 0))) y 0 10) (va_cwS 3 hts gX6_organ_X6_isIn rfl rfl rfl (by decide +kernel) ⟨Nat.le_of_ble_eq_true rfl, Nat.le_of_ble_eq_true rfl⟩) hK hN hP rfl hl.1 rfl (Nat.le_of_ble_eq_true rfl) dX6_organ_17 ⟨(show 0 ≤ 1 by omega), (show 0 ≤ 11 by omega)⟩ ?_
    refine lv_if_eq (tgt := 32) hx hb dX6_organ_20 (by decide) (fun c20 => ?_) (fun c20 => ?_)
    · have c20 := bI_eq.mp c20
      refine lv_aload_n hx hb dX6_organ_32 rfl (lv_at hl 0 rfl) ?_
      refine lv_iconst (v := 1) hx hb dX6_organ_33 (by decide) ?_
      refine oM_cVi (q0 := 0) (ci := 8) [.int 1] [] ⟨hx, hb, hml, hown, hts⟩ (m_X6_no l G hI α β (su γ 41 0 0 0) 1) (cwV 1 hts gX6_organ_X6_no rfl rfl rfl (by decide +kernel) ⟨Nat.le_of_ble_eq_true rfl, Nat.le_of_ble_eq_true rfl⟩) hK hN hP hS (fun q h => Or.inl h) rfl rfl (mw_M G (z3 α β (su γ 41 0 0 0))) rfl hl.1 rfl (Nat.le_of_ble_eq_true rfl) dX6_organ_34 ⟨(show 0 ≤ 1 by omega), (show 0 ≤ 11 by omega)⟩ (fun H locs hP hS => ?_)
      refine o_widen (k := 1) (n := 11) (by omega) (by omega) ?_
      exact o_iretM hx hb hr hlocks hS dX6_organ_37 (by have hP9 := hP; simp (decide := true) only [cOrgan, mT, c10, c20, Bool.true_and, Bool.and_true, Bool.false_and, Bool.and_false, Bool.false_eq_true, if_true, if_false, reduceIte, not_true_eq_false, not_false_eq_true, and_true, and_false, true_and, false_and, Nat.reduceEqDiff, reduceCtorEq]; first | exact hP9 | (rw [su_su] at hP9; exact hP9)) (by simp (decide := true) only [cOrgan, mT, c10, c20, Bool.true_and, Bool.and_true, Bool.false_and, Bool.and_false, Bool.false_eq_true, if_true, if_false, reduceIte, not_true_eq_false, not_false_eq_true, and_true, and_false, true_and, false_and, Nat.reduceEqDiff, reduceCtorEq]; try rfl)
    · have c20 := bI_ne.mp c20
      have n20 := oRg_le (n := 10) (by decide) c20
      refine lv_aload_n hx hb dX6_organ_23 rfl (lv_at hl 0 rfl) ?_
      refine lv_iload_n hx hb dX6_organ_24 rfl (lv_at hl 1 rfl) ?_
      refine lv_iload_n hx hb dX6_organ_25 rfl (lv_at hl 2 rfl) ?_
      refine oN_cV (q0 := 0) (ci := 8) [.int x, .int y] [] ⟨hx, hb, hml, hown, hts⟩ (m_X6_organTold l G hI α β (su γ 41 0 0 0) sz nS nO nH hz (oN x) x ((oIn_x c10)) (by omega) (oN y) y ((oRg_x c20)) (by omega)) (cwV 2 hts gX6_organ_X6_organTold rfl rfl rfl (by decide +kernel) ⟨Nat.le_of_ble_eq_true rfl, Nat.le_of_ble_eq_true rfl⟩) hK hN hP (Nat.le_trans hE hS.1) hS rfl rfl (mw_M G (z3 α β (su γ 41 0 0 0))) rfl hl.1 rfl (Nat.le_of_ble_eq_true rfl) dX6_organ_26 ⟨(show 0 + 1 ≤ 1 by omega), (show 0 + 11 ≤ 11 by omega)⟩ (fun H locs hP hS => ?_)
      change W _ _ _ _ _ _ _ _ _ _ _ _ _ _ _ (F0 m 29 ls (.int (mOT α nS nO (oN x) (oN y)) :: []))
      have hP : va_P G.1 vwCl (mw G (z3 α β (su γ 41 0 0 0))) H := hP
      refine lv_goto (tgt := 37) hx hb dX6_organ_29 (by decide) ?_
      refine o_widen (k := 1) (n := 11) (by omega) (by omega) ?_
      exact o_iretM hx hb hr hlocks hS dX6_organ_37 (by have hP9 := hP; simp (decide := true) only [cOrgan, mT, c10, c20, Bool.true_and, Bool.and_true, Bool.false_and, Bool.and_false, Bool.false_eq_true, if_true, if_false, reduceIte, not_true_eq_false, not_false_eq_true, and_true, and_false, true_and, false_and, Nat.reduceEqDiff, reduceCtorEq]; first | exact hP9 | (rw [su_su] at hP9; exact hP9)) (by simp (decide := true) only [cOrgan, mT, c10, c20, Bool.true_and, Bool.and_true, Bool.false_and, Bool.and_false, Bool.false_eq_true, if_true, if_false, reduceIte, not_true_eq_false, not_false_eq_true, and_true, and_false, true_and, false_and, Nat.reduceEqDiff, reduceCtorEq]; try rfl)
set_option maxHeartbeats 4000000 in
set_option maxRecDepth 100000 in
theorem m_X6_count (l : Launch) (G : oG) (hI : wl_I G.2.1 39) (α β γ : oT) (sz : Nat) (nS : Nat) (nO : Nat) (nH : Nat) (hz : qOK α nS nO nH) (x : Int32) : Met l yX6_count wsX6_count ({ frames := 2, cells := 1, slots := 8, locals := 48 } : Room) (va_Pc [.ref (G.2.1 0), .int x] (PN G (mw G (z3 α β γ)) sz)) (oQ (some (.int (if cCount x = 0 then mCnt α γ nS nO (oN x) else 0))) (fun H9 => va_P G.1 vwCl (mw G (z3 α β (mT γ (cCount x)))) H9) (mN G sz)) 1 8 (mN G sz) := by
  refine oE_body (E := fun U => sz ≤ U.heap.size) (cc := cX6_count) (by decide +kernel) rfl (Nat.le_of_ble_eq_true rfl) ?_
  intro p e s m below meth c ls hx hb hml hr hlocks hown hts hP hK hN hE hl
  have hown : s.vm.findClass RX6 = some m.cls := hown
  have hl : lv_has ls 2 [(0, .ref (G.2.1 0)), (1, .int x)] := hl
  have hS : va_S (mN G sz) s.heap s.heap [] := va_S.rf
  have hK0 := hK
  have hE : sz ≤ s.heap.size := hE
  obtain ⟨hz1, hz2, hz3, hz4, hz5, hz6, hz7, hz8⟩ := id hz
  refine lv_aload_n hx hb dX6_count_0 rfl (lv_at hl 0 rfl) ?_
  refine lv_iconst (v := 0) hx hb dX6_count_1 (by decide) ?_
  refine va_put (D := G.1) (ci := 8) (v := .int 0) (ty := .int) (C := RX6) (T := TX6) (N := 6) hx hb hts (fun w9 h9 => List.mem_cons_of_mem _ (List.mem_append_left _ (List.mem_append_right _ (h9)))) tyX6 tyX6_ok nmX6 hown hK hP (mN_D hI) hS (0) (mw_M G (z3 α β γ)) rfl 0 (by decide) (hts (.fieldLink RX6 28 "OrganCensusModel" "thrown" "I") (List.mem_of_getElem? (i := 1) rfl)) (fun _ h9 => h9) rfl (by decide +kernel) rfl rfl (Nat.le_of_ble_eq_true rfl) dX6_count_2 (fun H locs hP hD hS => ?_)
  have hP : va_P G.1 vwCl (mw G (z3 α β (su γ 41 0 0 0))) H := by rw [← (mw_zP (a := α) (b := β) (c := γ) (τ' := su γ 41 0 0 0) (mw_uM0 G (z3 α β γ) 0))]; exact hP
  clear hD
  refine lv_iload_n hx hb dX6_count_5 rfl (lv_at hl 1 rfl) ?_
  refine lv_iconst (v := 0) hx hb dX6_count_6 (by decide) ?_
  refine lv_bipush (v := 7) hx hb dX6_count_7 (by decide) ?_
  refine o_cSi [.int x, .int 0, .int 7] [] ⟨hx, hb, hml, hown, hts⟩ (m_X6_isIn l G (mw G (z3 α β (su γ 41 0 0 0))) x 0 7) (va_cwS 3 hts gX6_count_X6_isIn rfl rfl rfl (by decide +kernel) ⟨Nat.le_of_ble_eq_true rfl, Nat.le_of_ble_eq_true rfl⟩) hK hN hP rfl hl.1 rfl (Nat.le_of_ble_eq_true rfl) dX6_count_9 ⟨(show 0 ≤ 1 by omega), (show 0 ≤ 8 by omega)⟩ ?_
  refine lv_if_eq (tgt := 23) hx hb dX6_count_12 (by decide) (fun c12 => ?_) (fun c12 => ?_)
  · have c12 := bI_eq.mp c12
    refine lv_aload_n hx hb dX6_count_23 rfl (lv_at hl 0 rfl) ?_
    refine lv_iconst (v := 1) hx hb dX6_count_24 (by decide) ?_
    refine oM_cVi (q0 := 0) (ci := 8) [.int 1] [] ⟨hx, hb, hml, hown, hts⟩ (m_X6_no l G hI α β (su γ 41 0 0 0) 1) (cwV 1 hts gX6_count_X6_no rfl rfl rfl (by decide +kernel) ⟨Nat.le_of_ble_eq_true rfl, Nat.le_of_ble_eq_true rfl⟩) hK hN hP hS (fun q h => Or.inl h) rfl rfl (mw_M G (z3 α β (su γ 41 0 0 0))) rfl hl.1 rfl (Nat.le_of_ble_eq_true rfl) dX6_count_25 ⟨(show 0 ≤ 1 by omega), (show 0 ≤ 8 by omega)⟩ (fun H locs hP hS => ?_)
    refine o_widen (k := 1) (n := 8) (by omega) (by omega) ?_
    exact o_iretM hx hb hr hlocks hS dX6_count_28 (by have hP9 := hP; simp (decide := true) only [cCount, mT, mCnt_T, c12, Bool.true_and, Bool.and_true, Bool.false_and, Bool.and_false, Bool.false_eq_true, if_true, if_false, reduceIte, not_true_eq_false, not_false_eq_true, and_true, and_false, true_and, false_and, Nat.reduceEqDiff, reduceCtorEq]; first | exact hP9 | (rw [su_su] at hP9; exact hP9)) (by simp (decide := true) only [cCount, mT, mCnt_T, c12, Bool.true_and, Bool.and_true, Bool.false_and, Bool.and_false, Bool.false_eq_true, if_true, if_false, reduceIte, not_true_eq_false, not_false_eq_true, and_true, and_false, true_and, false_and, Nat.reduceEqDiff, reduceCtorEq]; try rfl)
  · have c12 := bI_ne.mp c12
    have n12 := oRg_le (n := 7) (by decide) c12
    refine lv_aload_n hx hb dX6_count_15 rfl (lv_at hl 0 rfl) ?_
    refine lv_iload_n hx hb dX6_count_16 rfl (lv_at hl 1 rfl) ?_
    refine oN_cV (q0 := 0) (ci := 8) [.int x] [] ⟨hx, hb, hml, hown, hts⟩ (m_X6_counted l G hI α β (su γ 41 0 0 0) sz nS nO nH hz (oN x) x ((oRg_x c12)) (by omega)) (cwV 1 hts gX6_count_X6_counted rfl rfl rfl (by decide +kernel) ⟨Nat.le_of_ble_eq_true rfl, Nat.le_of_ble_eq_true rfl⟩) hK hN hP (Nat.le_trans hE hS.1) hS rfl rfl (mw_M G (z3 α β (su γ 41 0 0 0))) rfl hl.1 rfl (Nat.le_of_ble_eq_true rfl) dX6_count_17 ⟨(show 0 + 1 ≤ 1 by omega), (show 0 + 8 ≤ 8 by omega)⟩ (fun H locs hP hS => ?_)
    change W _ _ _ _ _ _ _ _ _ _ _ _ _ _ _ (F0 m 20 ls (.int (mCnt α (su γ 41 0 0 0) nS nO (oN x)) :: []))
    have hP : va_P G.1 vwCl (mw G (z3 α β (su γ 41 0 0 0))) H := hP
    refine lv_goto (tgt := 28) hx hb dX6_count_20 (by decide) ?_
    refine o_widen (k := 1) (n := 8) (by omega) (by omega) ?_
    exact o_iretM hx hb hr hlocks hS dX6_count_28 (by have hP9 := hP; simp (decide := true) only [cCount, mT, mCnt_T, c12, Bool.true_and, Bool.and_true, Bool.false_and, Bool.and_false, Bool.false_eq_true, if_true, if_false, reduceIte, not_true_eq_false, not_false_eq_true, and_true, and_false, true_and, false_and, Nat.reduceEqDiff, reduceCtorEq]; first | exact hP9 | (rw [su_su] at hP9; exact hP9)) (by simp (decide := true) only [cCount, mT, mCnt_T, c12, Bool.true_and, Bool.and_true, Bool.false_and, Bool.and_false, Bool.false_eq_true, if_true, if_false, reduceIte, not_true_eq_false, not_false_eq_true, and_true, and_false, true_and, false_and, Nat.reduceEqDiff, reduceCtorEq]; try rfl)
