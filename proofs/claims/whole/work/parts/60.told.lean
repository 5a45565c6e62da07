set_option maxHeartbeats 4000000 in
set_option maxRecDepth 100000 in
theorem m_X6_organTold (l : Launch) (G : oG) (hI : wl_I G.2.1 39) (α β γ : oT) (sz : Nat) (nS : Nat) (nO : Nat) (nH : Nat) (hz : qOK α nS nO nH) (i : Nat) (ai : Int32) (ei : ai = nI i) (hi : i < nO) (w : Nat) (aw : Int32) (ew : aw = nI w) (hw : w < 11) : Met l yX6_organTold wsX6_organTold ({ frames := 2, cells := 1, slots := 11, locals := 46 } : Room) (va_Pc [.ref (G.2.1 0), .int ai, .int aw] (PN G (mw G (z3 α β γ)) sz)) (oQ (some (.int (mOT α nS nO i w))) (fun H9 => va_P G.1 vwCl (mw G (z3 α β γ)) H9) (mN G sz)) 1 11 (mN G sz) := by
  subst ei
  subst ew
  refine oE_body (E := fun U => sz ≤ U.heap.size) (cc := cX6_organTold) (by decide +kernel) rfl (Nat.le_of_ble_eq_true rfl) ?_
  intro p e s m below meth c ls hx hb hml hr hlocks hown hts hP hK hN hE hl
  have hown : s.vm.findClass RX6 = some m.cls := hown
  have hl : lv_has ls 4 [(0, .ref (G.2.1 0)), (1, .int (nI i)), (2, .int (nI w))] := hl
  have hS : va_S (mN G sz) s.heap s.heap [] := va_S.rf
  have hK0 := hK
  have hE : sz ≤ s.heap.size := hE
  obtain ⟨hz1, hz2, hz3, hz4, hz5, hz6, hz7, hz8⟩ := id hz
  have hq := hz8 i hi
  have htu := (oTu_lt hq.2.1 hq.2.2.2).1
  change qTu α i < 6 at htu
  refine lv_bipush (v := 11) hx hb dX6_organTold_0 (by decide) ?_
  refine va_newa (atype := .int) hx hb (hts (.arrayClass .int) (List.mem_of_getElem? (i := 1) rfl)) rfl hK hP (mN_D hI) hS (fun q h => Or.inr (Nat.le_trans hE h)) (a0 := (11, .inl (fun _ => 0))) (N' := 11) (fun cA => rfl) (by decide) (by decide) (Nat.le_of_ble_eq_true rfl) (Nat.le_of_ble_eq_true rfl) (Nat.le_of_ble_eq_true rfl) dX6_organTold_2 (fun q9 cA9 H hK hP hD hS => ?_)
  obtain ⟨g0, hg0⟩ : ∃ gq : Nat → Int32, gq = fun _ => 0 := ⟨_, rfl⟩
  have hP : va_P G.1 vwCl (mw G (z3 α β γ) ++ [(q9, .inl (cA9, 11, .inl g0))]) H := by rw [hg0]; exact hP
  have hD : va_D (mN G sz) (mw G (z3 α β γ) ++ [(q9, .inl (cA9, 11, .inl g0))]) := by rw [hg0]; exact hD
  refine lv_dup hx hb dX6_organTold_4 rfl ?_
  refine lv_iconst (v := 0) hx hb dX6_organTold_5 (by decide) ?_
  refine lv_aload_n hx hb dX6_organTold_6 rfl (lv_at hl 0 rfl) ?_
  refine va_get (D := G.1) (ci := 8) (v := .ref (ms G 0 0)) (C := RX6) (T := TX6) (N := 6) hx hb hts (fun w9 h9 => List.mem_cons_of_mem _ (List.mem_append_left _ (List.mem_append_right _ (h9)))) hown hK hP (0) (wl_app (mw_M G (z3 α β γ))) rfl 4 (by decide) (hts (.fieldLink RX6 21 "OrganCensusModel" "s" "LOrganCensusModel$State;") (List.mem_of_getElem? (i := 2) rfl)) (fun _ h9 => h9) rfl dX6_organTold_7 ?_
  refine va_getN (D := G.1) (ci := 7) (v := .ref (ms G 0 6)) (C := RX5) (T := TX5) (N := 21) hx hb hts (fun w9 h9 => List.mem_cons_of_mem _ (List.mem_append_right _ (h9))) hown hK hP (3 + 18 * 0 + (0)) (wl_app (mv_S G (z3 α β γ) (show 0 < 2 by decide))) rfl 8 (by decide) (va_Nw.use rfl (hN.1 (RX6, 86, RX5, "at", "[I", RX6) (List.mem_of_getElem? (i := 8) rfl))) (fun _ h9 => h9) rfl dX6_organTold_10 ?_
  refine lv_iload_n hx hb dX6_organTold_13 rfl (lv_at hl 1 rfl) ?_
  refine o_iald (k := i) hx hb hK hP (3 + 18 * 0 + (6)) 0 (wl_app (mv_A6 G (z3 α β γ) (show 0 < 2 by decide))) rfl rfl (by omega) (by decide) dX6_organTold_14 ?_
  refine o_iast (k := 0) hx hb hK hP hD hS (39) 6 (mw_39 G _ _) rfl (by decide) (by omega) (by decide) dX6_organTold_15 (fun H locs hP hD hS => ?_)
  rw [mw_set39] at hP hD
  obtain ⟨g1, hg1⟩ : ∃ gq, gq = upd g0 0 (α 6 0 i) := ⟨_, rfl⟩
  have hP : va_P G.1 vwCl (mw G (z3 α β γ) ++ [(q9, .inl (cA9, 11, .inl g1))]) H := by rw [hg1]; exact hP
  have hD : va_D (mN G sz) (mw G (z3 α β γ) ++ [(q9, .inl (cA9, 11, .inl g1))]) := by rw [hg1]; exact hD
  refine lv_dup hx hb dX6_organTold_16 rfl ?_
  refine lv_iconst (v := 1) hx hb dX6_organTold_17 (by decide) ?_
  refine lv_aload_n hx hb dX6_organTold_18 rfl (lv_at hl 0 rfl) ?_
  refine va_get (D := G.1) (ci := 8) (v := .ref (ms G 0 0)) (C := RX6) (T := TX6) (N := 6) hx hb hts (fun w9 h9 => List.mem_cons_of_mem _ (List.mem_append_left _ (List.mem_append_right _ (h9)))) hown hK hP (0) (wl_app (mw_M G (z3 α β γ))) rfl 4 (by decide) (hts (.fieldLink RX6 21 "OrganCensusModel" "s" "LOrganCensusModel$State;") (List.mem_of_getElem? (i := 2) rfl)) (fun _ h9 => h9) rfl dX6_organTold_19 ?_
  refine va_getN (D := G.1) (ci := 7) (v := .ref (ms G 0 7)) (C := RX5) (T := TX5) (N := 21) hx hb hts (fun w9 h9 => List.mem_cons_of_mem _ (List.mem_append_right _ (h9))) hown hK hP (3 + 18 * 0 + (0)) (wl_app (mv_S G (z3 α β γ) (show 0 < 2 by decide))) rfl 9 (by decide) (va_Nw.use rfl (hN.1 (RX6, 89, RX5, "pitch", "[I", RX6) (List.mem_of_getElem? (i := 9) rfl))) (fun _ h9 => h9) rfl dX6_organTold_22 ?_
  refine lv_iload_n hx hb dX6_organTold_25 rfl (lv_at hl 1 rfl) ?_
  refine o_iald (k := i) hx hb hK hP (3 + 18 * 0 + (7)) 0 (wl_app (mv_A7 G (z3 α β γ) (show 0 < 2 by decide))) rfl rfl (by omega) (by decide) dX6_organTold_26 ?_
  refine o_iast (k := 1) hx hb hK hP hD hS (39) 6 (mw_39 G _ _) rfl (by decide) (by omega) (by decide) dX6_organTold_27 (fun H locs hP hD hS => ?_)
  rw [mw_set39] at hP hD
  obtain ⟨g2, hg2⟩ : ∃ gq, gq = upd g1 1 (α 7 0 i) := ⟨_, rfl⟩
  have hP : va_P G.1 vwCl (mw G (z3 α β γ) ++ [(q9, .inl (cA9, 11, .inl g2))]) H := by rw [hg2]; exact hP
  have hD : va_D (mN G sz) (mw G (z3 α β γ) ++ [(q9, .inl (cA9, 11, .inl g2))]) := by rw [hg2]; exact hD
  refine lv_dup hx hb dX6_organTold_28 rfl ?_
  refine lv_iconst (v := 2) hx hb dX6_organTold_29 (by decide) ?_
  refine lv_aload_n hx hb dX6_organTold_30 rfl (lv_at hl 0 rfl) ?_
  refine va_get (D := G.1) (ci := 8) (v := .ref (ms G 0 0)) (C := RX6) (T := TX6) (N := 6) hx hb hts (fun w9 h9 => List.mem_cons_of_mem _ (List.mem_append_left _ (List.mem_append_right _ (h9)))) hown hK hP (0) (wl_app (mw_M G (z3 α β γ))) rfl 4 (by decide) (hts (.fieldLink RX6 21 "OrganCensusModel" "s" "LOrganCensusModel$State;") (List.mem_of_getElem? (i := 2) rfl)) (fun _ h9 => h9) rfl dX6_organTold_31 ?_
  refine va_getN (D := G.1) (ci := 7) (v := .ref (ms G 0 8)) (C := RX5) (T := TX5) (N := 21) hx hb hts (fun w9 h9 => List.mem_cons_of_mem _ (List.mem_append_right _ (h9))) hown hK hP (3 + 18 * 0 + (0)) (wl_app (mv_S G (z3 α β γ) (show 0 < 2 by decide))) rfl 10 (by decide) (va_Nw.use rfl (hN.1 (RX6, 119, RX5, "left", "[I", RX6) (List.mem_of_getElem? (i := 15) rfl))) (fun _ h9 => h9) rfl dX6_organTold_34 ?_
  refine lv_iload_n hx hb dX6_organTold_37 rfl (lv_at hl 1 rfl) ?_
  refine o_iald (k := i) hx hb hK hP (3 + 18 * 0 + (8)) 0 (wl_app (mv_A8 G (z3 α β γ) (show 0 < 2 by decide))) rfl rfl (by omega) (by decide) dX6_organTold_38 ?_
  refine o_iast (k := 2) hx hb hK hP hD hS (39) 6 (mw_39 G _ _) rfl (by decide) (by omega) (by decide) dX6_organTold_39 (fun H locs hP hD hS => ?_)
  rw [mw_set39] at hP hD
  obtain ⟨g3, hg3⟩ : ∃ gq, gq = upd g2 2 (α 8 0 i) := ⟨_, rfl⟩
  have hP : va_P G.1 vwCl (mw G (z3 α β γ) ++ [(q9, .inl (cA9, 11, .inl g3))]) H := by rw [hg3]; exact hP
  have hD : va_D (mN G sz) (mw G (z3 α β γ) ++ [(q9, .inl (cA9, 11, .inl g3))]) := by rw [hg3]; exact hD
  refine lv_dup hx hb dX6_organTold_40 rfl ?_
  refine lv_iconst (v := 3) hx hb dX6_organTold_41 (by decide) ?_
  refine lv_aload_n hx hb dX6_organTold_42 rfl (lv_at hl 0 rfl) ?_
  refine va_get (D := G.1) (ci := 8) (v := .ref (ms G 0 0)) (C := RX6) (T := TX6) (N := 6) hx hb hts (fun w9 h9 => List.mem_cons_of_mem _ (List.mem_append_left _ (List.mem_append_right _ (h9)))) hown hK hP (0) (wl_app (mw_M G (z3 α β γ))) rfl 4 (by decide) (hts (.fieldLink RX6 21 "OrganCensusModel" "s" "LOrganCensusModel$State;") (List.mem_of_getElem? (i := 2) rfl)) (fun _ h9 => h9) rfl dX6_organTold_43 ?_
  refine va_getN (D := G.1) (ci := 7) (v := .ref (ms G 0 9)) (C := RX5) (T := TX5) (N := 21) hx hb hts (fun w9 h9 => List.mem_cons_of_mem _ (List.mem_append_right _ (h9))) hown hK hP (3 + 18 * 0 + (0)) (wl_app (mv_S G (z3 α β γ) (show 0 < 2 by decide))) rfl 11 (by decide) (va_Nw.use rfl (hN.1 (RX6, 92, RX5, "loud", "[I", RX6) (List.mem_of_getElem? (i := 10) rfl))) (fun _ h9 => h9) rfl dX6_organTold_46 ?_
  refine lv_iload_n hx hb dX6_organTold_49 rfl (lv_at hl 1 rfl) ?_
  refine o_iald (k := i) hx hb hK hP (3 + 18 * 0 + (9)) 0 (wl_app (mv_A9 G (z3 α β γ) (show 0 < 2 by decide))) rfl rfl (by omega) (by decide) dX6_organTold_50 ?_
  refine o_iast (k := 3) hx hb hK hP hD hS (39) 6 (mw_39 G _ _) rfl (by decide) (by omega) (by decide) dX6_organTold_51 (fun H locs hP hD hS => ?_)
  rw [mw_set39] at hP hD
  obtain ⟨g4, hg4⟩ : ∃ gq, gq = upd g3 3 (α 9 0 i) := ⟨_, rfl⟩
  have hP : va_P G.1 vwCl (mw G (z3 α β γ) ++ [(q9, .inl (cA9, 11, .inl g4))]) H := by rw [hg4]; exact hP
  have hD : va_D (mN G sz) (mw G (z3 α β γ) ++ [(q9, .inl (cA9, 11, .inl g4))]) := by rw [hg4]; exact hD
  refine lv_dup hx hb dX6_organTold_52 rfl ?_
  refine lv_iconst (v := 4) hx hb dX6_organTold_53 (by decide) ?_
  refine lv_aload_n hx hb dX6_organTold_54 rfl (lv_at hl 0 rfl) ?_
  refine va_get (D := G.1) (ci := 8) (v := .ref (ms G 0 0)) (C := RX6) (T := TX6) (N := 6) hx hb hts (fun w9 h9 => List.mem_cons_of_mem _ (List.mem_append_left _ (List.mem_append_right _ (h9)))) hown hK hP (0) (wl_app (mw_M G (z3 α β γ))) rfl 4 (by decide) (hts (.fieldLink RX6 21 "OrganCensusModel" "s" "LOrganCensusModel$State;") (List.mem_of_getElem? (i := 2) rfl)) (fun _ h9 => h9) rfl dX6_organTold_55 ?_
  refine va_getN (D := G.1) (ci := 7) (v := .ref (ms G 0 10)) (C := RX5) (T := TX5) (N := 21) hx hb hts (fun w9 h9 => List.mem_cons_of_mem _ (List.mem_append_right _ (h9))) hown hK hP (3 + 18 * 0 + (0)) (wl_app (mv_S G (z3 α β γ) (show 0 < 2 by decide))) rfl 12 (by decide) (va_Nw.use rfl (hN.1 (RX6, 122, RX5, "coins", "[I", RX6) (List.mem_of_getElem? (i := 16) rfl))) (fun _ h9 => h9) rfl dX6_organTold_58 ?_
  refine lv_iload_n hx hb dX6_organTold_61 rfl (lv_at hl 1 rfl) ?_
  refine o_iald (k := i) hx hb hK hP (3 + 18 * 0 + (10)) 0 (wl_app (mv_A10 G (z3 α β γ) (show 0 < 2 by decide))) rfl rfl (by omega) (by decide) dX6_organTold_62 ?_
  refine o_iast (k := 4) hx hb hK hP hD hS (39) 6 (mw_39 G _ _) rfl (by decide) (by omega) (by decide) dX6_organTold_63 (fun H locs hP hD hS => ?_)
  rw [mw_set39] at hP hD
  obtain ⟨g5, hg5⟩ : ∃ gq, gq = upd g4 4 (α 10 0 i) := ⟨_, rfl⟩
  have hP : va_P G.1 vwCl (mw G (z3 α β γ) ++ [(q9, .inl (cA9, 11, .inl g5))]) H := by rw [hg5]; exact hP
  have hD : va_D (mN G sz) (mw G (z3 α β γ) ++ [(q9, .inl (cA9, 11, .inl g5))]) := by rw [hg5]; exact hD
  refine lv_dup hx hb dX6_organTold_64 rfl ?_
  refine lv_iconst (v := 5) hx hb dX6_organTold_65 (by decide) ?_
  refine lv_aload_n hx hb dX6_organTold_66 rfl (lv_at hl 0 rfl) ?_
  refine va_get (D := G.1) (ci := 8) (v := .ref (ms G 0 0)) (C := RX6) (T := TX6) (N := 6) hx hb hts (fun w9 h9 => List.mem_cons_of_mem _ (List.mem_append_left _ (List.mem_append_right _ (h9)))) hown hK hP (0) (wl_app (mw_M G (z3 α β γ))) rfl 4 (by decide) (hts (.fieldLink RX6 21 "OrganCensusModel" "s" "LOrganCensusModel$State;") (List.mem_of_getElem? (i := 2) rfl)) (fun _ h9 => h9) rfl dX6_organTold_67 ?_
  refine va_getN (D := G.1) (ci := 7) (v := .ref (ms G 0 11)) (C := RX5) (T := TX5) (N := 21) hx hb hts (fun w9 h9 => List.mem_cons_of_mem _ (List.mem_append_right _ (h9))) hown hK hP (3 + 18 * 0 + (0)) (wl_app (mv_S G (z3 α β γ) (show 0 < 2 by decide))) rfl 13 (by decide) (va_Nw.use rfl (hN.1 (RX6, 95, RX5, "barrel", "[I", RX6) (List.mem_of_getElem? (i := 11) rfl))) (fun _ h9 => h9) rfl dX6_organTold_70 ?_
  refine lv_iload_n hx hb dX6_organTold_73 rfl (lv_at hl 1 rfl) ?_
  refine o_iald (k := i) hx hb hK hP (3 + 18 * 0 + (11)) 0 (wl_app (mv_A11 G (z3 α β γ) (show 0 < 2 by decide))) rfl rfl (by omega) (by decide) dX6_organTold_74 ?_
  refine o_iast (k := 5) hx hb hK hP hD hS (39) 6 (mw_39 G _ _) rfl (by decide) (by omega) (by decide) dX6_organTold_75 (fun H locs hP hD hS => ?_)
  rw [mw_set39] at hP hD
  obtain ⟨g6, hg6⟩ : ∃ gq, gq = upd g5 5 (α 11 0 i) := ⟨_, rfl⟩
  have hP : va_P G.1 vwCl (mw G (z3 α β γ) ++ [(q9, .inl (cA9, 11, .inl g6))]) H := by rw [hg6]; exact hP
  have hD : va_D (mN G sz) (mw G (z3 α β γ) ++ [(q9, .inl (cA9, 11, .inl g6))]) := by rw [hg6]; exact hD
  refine lv_dup hx hb dX6_organTold_76 rfl ?_
  refine lv_bipush (v := 6) hx hb dX6_organTold_77 (by decide) ?_
  refine lv_aload_n hx hb dX6_organTold_79 rfl (lv_at hl 0 rfl) ?_
  refine va_get (D := G.1) (ci := 8) (v := .ref (ms G 0 0)) (C := RX6) (T := TX6) (N := 6) hx hb hts (fun w9 h9 => List.mem_cons_of_mem _ (List.mem_append_left _ (List.mem_append_right _ (h9)))) hown hK hP (0) (wl_app (mw_M G (z3 α β γ))) rfl 4 (by decide) (hts (.fieldLink RX6 21 "OrganCensusModel" "s" "LOrganCensusModel$State;") (List.mem_of_getElem? (i := 2) rfl)) (fun _ h9 => h9) rfl dX6_organTold_80 ?_
  refine va_getN (D := G.1) (ci := 7) (v := .ref (ms G 0 12)) (C := RX5) (T := TX5) (N := 21) hx hb hts (fun w9 h9 => List.mem_cons_of_mem _ (List.mem_append_right _ (h9))) hown hK hP (3 + 18 * 0 + (0)) (wl_app (mv_S G (z3 α β γ) (show 0 < 2 by decide))) rfl 14 (by decide) (va_Nw.use rfl (hN.1 (RX6, 105, RX5, "place", "[I", RX6) (List.mem_of_getElem? (i := 12) rfl))) (fun _ h9 => h9) rfl dX6_organTold_83 ?_
  refine lv_iload_n hx hb dX6_organTold_86 rfl (lv_at hl 1 rfl) ?_
  refine o_iald (k := i) hx hb hK hP (3 + 18 * 0 + (12)) 0 (wl_app (mv_A12 G (z3 α β γ) (show 0 < 2 by decide))) rfl rfl (by omega) (by decide) dX6_organTold_87 ?_
  refine o_iast (k := 6) hx hb hK hP hD hS (39) 6 (mw_39 G _ _) rfl (by decide) (by omega) (by decide) dX6_organTold_88 (fun H locs hP hD hS => ?_)
  rw [mw_set39] at hP hD
  obtain ⟨g7, hg7⟩ : ∃ gq, gq = upd g6 6 (α 12 0 i) := ⟨_, rfl⟩
  have hP : va_P G.1 vwCl (mw G (z3 α β γ) ++ [(q9, .inl (cA9, 11, .inl g7))]) H := by rw [hg7]; exact hP
  have hD : va_D (mN G sz) (mw G (z3 α β γ) ++ [(q9, .inl (cA9, 11, .inl g7))]) := by rw [hg7]; exact hD
  refine lv_dup hx hb dX6_organTold_89 rfl ?_
  refine lv_bipush (v := 7) hx hb dX6_organTold_90 (by decide) ?_
  refine lv_aload_n hx hb dX6_organTold_92 rfl (lv_at hl 0 rfl) ?_
  refine va_get (D := G.1) (ci := 8) (v := .ref (ms G 0 0)) (C := RX6) (T := TX6) (N := 6) hx hb hts (fun w9 h9 => List.mem_cons_of_mem _ (List.mem_append_left _ (List.mem_append_right _ (h9)))) hown hK hP (0) (wl_app (mw_M G (z3 α β γ))) rfl 4 (by decide) (hts (.fieldLink RX6 21 "OrganCensusModel" "s" "LOrganCensusModel$State;") (List.mem_of_getElem? (i := 2) rfl)) (fun _ h9 => h9) rfl dX6_organTold_93 ?_
  refine lv_iload_n hx hb dX6_organTold_96 rfl (lv_at hl 1 rfl) ?_
  have hP9 := hP
  have hK9 := hK
  have hP := (ol_split hP).1
  have hK := hK0
  have hP : va_P G.1 vwCl (mtw G (z3 α β γ) 0 α) H := by rw [mz0]; exact hP
  refine o_cVi (q0 := 3 + 18 * 0 + (0)) (ci := 7) [.int (nI i)] [.int 7, .ref q9, .ref q9] ⟨hx, hb, hml, hown, hts⟩ (m_X5_tune l G (z3 α β γ) (show 0 < 2 by decide) α nS nO nH hz i (nI i) (rfl) (by omega)) (cwV 1 hts gX6_organTold_X5_tune rfl rfl rfl (by decide +kernel) ⟨Nat.le_of_ble_eq_true rfl, Nat.le_of_ble_eq_true rfl⟩) hK hN hP rfl rfl (mt_S G (z3 α β γ) (show 0 < 2 by decide) α) rfl hl.1 rfl (Nat.le_of_ble_eq_true rfl) dX6_organTold_97 ⟨(show 1 ≤ 1 by omega), (show 11 ≤ 11 by omega)⟩ ?_
  have hP : va_P G.1 vwCl (mw G (z3 α β γ)) H := by rw [mz0] at hP; exact hP
  have hP := hP9
  have hK := hK9
  refine o_iast (k := 7) hx hb hK hP hD hS (39) 6 (mw_39 G _ _) rfl (by decide) (by omega) (by decide) dX6_organTold_100 (fun H locs hP hD hS => ?_)
  rw [mw_set39] at hP hD
  obtain ⟨g8, hg8⟩ : ∃ gq, gq = upd g7 7 (nI (qTu α i)) := ⟨_, rfl⟩
  have hP : va_P G.1 vwCl (mw G (z3 α β γ) ++ [(q9, .inl (cA9, 11, .inl g8))]) H := by rw [hg8]; exact hP
  have hD : va_D (mN G sz) (mw G (z3 α β γ) ++ [(q9, .inl (cA9, 11, .inl g8))]) := by rw [hg8]; exact hD
  refine lv_dup hx hb dX6_organTold_101 rfl ?_
  refine lv_bipush (v := 8) hx hb dX6_organTold_102 (by decide) ?_
  refine lv_aload_n hx hb dX6_organTold_104 rfl (lv_at hl 0 rfl) ?_
  refine va_get (D := G.1) (ci := 8) (v := .ref (ms G 0 0)) (C := RX6) (T := TX6) (N := 6) hx hb hts (fun w9 h9 => List.mem_cons_of_mem _ (List.mem_append_left _ (List.mem_append_right _ (h9)))) hown hK hP (0) (wl_app (mw_M G (z3 α β γ))) rfl 4 (by decide) (hts (.fieldLink RX6 21 "OrganCensusModel" "s" "LOrganCensusModel$State;") (List.mem_of_getElem? (i := 2) rfl)) (fun _ h9 => h9) rfl dX6_organTold_105 ?_
  refine va_getN (D := G.1) (ci := 7) (v := .ref (ms G 0 13)) (C := RX5) (T := TX5) (N := 21) hx hb hts (fun w9 h9 => List.mem_cons_of_mem _ (List.mem_append_right _ (h9))) hown hK hP (3 + 18 * 0 + (0)) (wl_app (mv_S G (z3 α β γ) (show 0 < 2 by decide))) rfl 15 (by decide) (va_Nw.use rfl (hN.1 (RX6, 108, RX5, "wear", "[I", RX6) (List.mem_of_getElem? (i := 13) rfl))) (fun _ h9 => h9) rfl dX6_organTold_108 ?_
  refine lv_bipush (v := 6) hx hb dX6_organTold_111 (by decide) ?_
  refine lv_iload_n hx hb dX6_organTold_113 rfl (lv_at hl 1 rfl) ?_
  refine lv_imul hx hb dX6_organTold_114 ?_
  refine lv_aload_n hx hb dX6_organTold_115 rfl (lv_at hl 0 rfl) ?_
  refine va_get (D := G.1) (ci := 8) (v := .ref (ms G 0 0)) (C := RX6) (T := TX6) (N := 6) hx hb hts (fun w9 h9 => List.mem_cons_of_mem _ (List.mem_append_left _ (List.mem_append_right _ (h9)))) hown hK hP (0) (wl_app (mw_M G (z3 α β γ))) rfl 4 (by decide) (hts (.fieldLink RX6 21 "OrganCensusModel" "s" "LOrganCensusModel$State;") (List.mem_of_getElem? (i := 2) rfl)) (fun _ h9 => h9) rfl dX6_organTold_116 ?_
  refine lv_iload_n hx hb dX6_organTold_119 rfl (lv_at hl 1 rfl) ?_
  have hP9 := hP
  have hK9 := hK
  have hP := (ol_split hP).1
  have hK := hK0
  have hP : va_P G.1 vwCl (mtw G (z3 α β γ) 0 α) H := by rw [mz0]; exact hP
  refine o_cVi (q0 := 3 + 18 * 0 + (0)) (ci := 7) [.int (nI i)] [.int (6 * (nI i)), .ref (ms G 0 13), .int 8, .ref q9, .ref q9] ⟨hx, hb, hml, hown, hts⟩ (m_X5_tune l G (z3 α β γ) (show 0 < 2 by decide) α nS nO nH hz i (nI i) (rfl) (by omega)) (cwV 1 hts gX6_organTold_X5_tune rfl rfl rfl (by decide +kernel) ⟨Nat.le_of_ble_eq_true rfl, Nat.le_of_ble_eq_true rfl⟩) hK hN hP rfl rfl (mt_S G (z3 α β γ) (show 0 < 2 by decide) α) rfl hl.1 rfl (Nat.le_of_ble_eq_true rfl) dX6_organTold_120 ⟨(show 1 ≤ 1 by omega), (show 11 ≤ 11 by omega)⟩ ?_
  have hP : va_P G.1 vwCl (mw G (z3 α β γ)) H := by rw [mz0] at hP; exact hP
  have hP := hP9
  have hK := hK9
  refine lv_iadd hx hb dX6_organTold_123 ?_
  refine o_iald (k := (6 * i) + (qTu α i)) hx hb hK hP (3 + 18 * 0 + (13)) 0 (wl_app (mv_A13 G (z3 α β γ) (show 0 < 2 by decide))) rfl (o_nadd (o_nmul (by decide) rfl) rfl) (by omega) (by decide) dX6_organTold_124 ?_
  refine o_iast (k := 8) hx hb hK hP hD hS (39) 6 (mw_39 G _ _) rfl (by decide) (by omega) (by decide) dX6_organTold_125 (fun H locs hP hD hS => ?_)
  rw [mw_set39] at hP hD
  obtain ⟨g9, hg9⟩ : ∃ gq, gq = upd g8 8 (α 13 0 ((6 * i) + (qTu α i))) := ⟨_, rfl⟩
  have hP : va_P G.1 vwCl (mw G (z3 α β γ) ++ [(q9, .inl (cA9, 11, .inl g9))]) H := by rw [hg9]; exact hP
  have hD : va_D (mN G sz) (mw G (z3 α β γ) ++ [(q9, .inl (cA9, 11, .inl g9))]) := by rw [hg9]; exact hD
  refine lv_dup hx hb dX6_organTold_126 rfl ?_
  refine lv_bipush (v := 9) hx hb dX6_organTold_127 (by decide) ?_
  refine lv_aload_n hx hb dX6_organTold_129 rfl (lv_at hl 0 rfl) ?_
  refine va_get (D := G.1) (ci := 8) (v := .ref (ms G 0 0)) (C := RX6) (T := TX6) (N := 6) hx hb hts (fun w9 h9 => List.mem_cons_of_mem _ (List.mem_append_left _ (List.mem_append_right _ (h9)))) hown hK hP (0) (wl_app (mw_M G (z3 α β γ))) rfl 4 (by decide) (hts (.fieldLink RX6 21 "OrganCensusModel" "s" "LOrganCensusModel$State;") (List.mem_of_getElem? (i := 2) rfl)) (fun _ h9 => h9) rfl dX6_organTold_130 ?_
  refine lv_iconst (v := (-1)) hx hb dX6_organTold_133 (by decide) ?_
  refine lv_iload_n hx hb dX6_organTold_134 rfl (lv_at hl 1 rfl) ?_
  have hP9 := hP
  have hK9 := hK
  have hP := (ol_split hP).1
  have hK := hK0
  have hP : va_P G.1 vwCl (mtw G (z3 α β γ) 0 α) H := by rw [mz0]; exact hP
  refine o_cVi (q0 := 3 + 18 * 0 + (0)) (ci := 7) [.int ((-1)), .int (nI i)] [.int 9, .ref q9, .ref q9] ⟨hx, hb, hml, hown, hts⟩ (m_X5_complaintsOf l G (z3 α β γ) (show 0 < 2 by decide) α nS nO nH hz (-1) (nI i)) (cwV 2 hts gX6_organTold_X5_complaintsOf rfl rfl rfl (by decide +kernel) ⟨Nat.le_of_ble_eq_true rfl, Nat.le_of_ble_eq_true rfl⟩) hK hN hP rfl rfl (mt_S G (z3 α β γ) (show 0 < 2 by decide) α) rfl hl.1 rfl (Nat.le_of_ble_eq_true rfl) dX6_organTold_135 ⟨(show 1 ≤ 1 by omega), (show 11 ≤ 11 by omega)⟩ ?_
  have hP : va_P G.1 vwCl (mw G (z3 α β γ)) H := by rw [mz0] at hP; exact hP
  have hP := hP9
  have hK := hK9
  refine o_iast (k := 9) hx hb hK hP hD hS (39) 6 (mw_39 G _ _) rfl (by decide) (by omega) (by decide) dX6_organTold_138 (fun H locs hP hD hS => ?_)
  rw [mw_set39] at hP hD
  obtain ⟨g10, hg10⟩ : ∃ gq, gq = upd g9 9 (qCo α (-1) (nI i) (nO * 6)) := ⟨_, rfl⟩
  have hP : va_P G.1 vwCl (mw G (z3 α β γ) ++ [(q9, .inl (cA9, 11, .inl g10))]) H := by rw [hg10]; exact hP
  have hD : va_D (mN G sz) (mw G (z3 α β γ) ++ [(q9, .inl (cA9, 11, .inl g10))]) := by rw [hg10]; exact hD
  refine lv_dup hx hb dX6_organTold_139 rfl ?_
  refine lv_bipush (v := 10) hx hb dX6_organTold_140 (by decide) ?_
  refine lv_aload_n hx hb dX6_organTold_142 rfl (lv_at hl 0 rfl) ?_
  refine va_get (D := G.1) (ci := 8) (v := .ref (ms G 0 0)) (C := RX6) (T := TX6) (N := 6) hx hb hts (fun w9 h9 => List.mem_cons_of_mem _ (List.mem_append_left _ (List.mem_append_right _ (h9)))) hown hK hP (0) (wl_app (mw_M G (z3 α β γ))) rfl 4 (by decide) (hts (.fieldLink RX6 21 "OrganCensusModel" "s" "LOrganCensusModel$State;") (List.mem_of_getElem? (i := 2) rfl)) (fun _ h9 => h9) rfl dX6_organTold_143 ?_
  refine lv_iload_n hx hb dX6_organTold_146 rfl (lv_at hl 1 rfl) ?_
  have hP9 := hP
  have hK9 := hK
  have hP := (ol_split hP).1
  have hK := hK0
  have hP : va_P G.1 vwCl (mtw G (z3 α β γ) 0 α) H := by rw [mz0]; exact hP
  refine o_cVi (q0 := 3 + 18 * 0 + (0)) (ci := 7) [.int (nI i)] [.int 10, .ref q9, .ref q9] ⟨hx, hb, hml, hown, hts⟩ (m_X5_banishments l G (z3 α β γ) (show 0 < 2 by decide) α nS nO nH hz i (nI i) (rfl) (by omega)) (cwV 1 hts gX6_organTold_X5_banishments rfl rfl rfl (by decide +kernel) ⟨Nat.le_of_ble_eq_true rfl, Nat.le_of_ble_eq_true rfl⟩) hK hN hP rfl rfl (mt_S G (z3 α β γ) (show 0 < 2 by decide) α) rfl hl.1 rfl (Nat.le_of_ble_eq_true rfl) dX6_organTold_147 ⟨(show 1 ≤ 1 by omega), (show 11 ≤ 11 by omega)⟩ ?_
  have hP : va_P G.1 vwCl (mw G (z3 α β γ)) H := by rw [mz0] at hP; exact hP
  have hP := hP9
  have hK := hK9
  refine o_iast (k := 10) hx hb hK hP hD hS (39) 6 (mw_39 G _ _) rfl (by decide) (by omega) (by decide) dX6_organTold_150 (fun H locs hP hD hS => ?_)
  rw [mw_set39] at hP hD
  obtain ⟨g11, hg11⟩ : ∃ gq, gq = upd g10 10 (qBS α i nS) := ⟨_, rfl⟩
  have hP : va_P G.1 vwCl (mw G (z3 α β γ) ++ [(q9, .inl (cA9, 11, .inl g11))]) H := by rw [hg11]; exact hP
  have hD : va_D (mN G sz) (mw G (z3 α β γ) ++ [(q9, .inl (cA9, 11, .inl g11))]) := by rw [hg11]; exact hD
  refine lv_astore_n (lv' := [(3, .ref q9), (0, .ref (G.2.1 0)), (1, .int (nI i)), (2, .int (nI w))]) hx hb dX6_organTold_151 rfl hl (by decide) rfl (fun ls hl => ?_)
  refine lv_aload_n hx hb dX6_organTold_152 rfl (lv_at hl 0 rfl) ?_
  refine lv_iload_n hx hb dX6_organTold_153 rfl (lv_at hl 3 rfl) ?_
  refine o_iald (k := w) hx hb hK hP (39) 6 (mw_39 G _ _) rfl rfl (by omega) (by decide) dX6_organTold_154 ?_
  refine o_widen (k := 1) (n := 11) (by omega) (by omega) ?_
  exact o_iretM hx hb hr hlocks hS dX6_organTold_155 ((ol_split hP).1) (by subst hg11 hg10 hg9 hg8 hg7 hg6 hg5 hg4 hg3 hg2 hg1 hg0; rcases (show w = 0 ∨ w = 1 ∨ w = 2 ∨ w = 3 ∨ w = 4 ∨ w = 5 ∨ w = 6 ∨ w = 7 ∨ w = 8 ∨ w = 9 ∨ w = 10 by omega) with rfl | rfl | rfl | rfl | rfl | rfl | rfl | rfl | rfl | rfl | rfl <;> rfl)
