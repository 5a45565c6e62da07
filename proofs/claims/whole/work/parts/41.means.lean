set_option maxHeartbeats 4000000 in
set_option maxRecDepth 100000 in
theorem m_X4_mean (l : Launch) (G : oG) (α β γ : oT) (nS : Nat) (nO : Nat) (nH : Nat) (hz : oOK α nS nO nH) : Met l yX4_mean wsX4_mean ({ frames := 1, cells := 0, slots := 0, locals := 22 } : Room) (va_Pc [.ref (G.2.1 0)] (PW G (cw G (z3 α β γ)))) (oR (some (.double (oMean (oCoinsA α nO) nO)))) 0 0 (fun _ => False) := by
  refine o_body (cc := cX4_mean) (by decide +kernel) rfl (Nat.le_of_ble_eq_true rfl) ?_
  intro p e s m below meth c ls hx hb hml hr hlocks hown hts hP hK hN hl
  have hown : s.vm.findClass RX4 = some m.cls := hown
  have hl : lv_has ls 1 [(0, .ref (G.2.1 0))] := hl
  obtain ⟨hz1, hz2, hz3, hz4, hz5, hz6, hz7⟩ := id hz
  refine lv_aload_n hx hb dX4_mean_0 rfl (lv_at hl 0 rfl) ?_
  refine va_get (D := G.1) (ci := 6) (v := .ref (ta G 0 (0))) (C := RX4) (T := TX4) (N := 3) hx hb hts (fun w9 h9 => List.mem_cons_of_mem _ (List.mem_append_left _ (List.mem_append_left _ (List.mem_append_right _ (h9))))) hown hK hP (0) (cx_C G (z3 α β γ)) rfl 0 (by decide) (hts (.fieldLink RX4 10 "OrganCensus" "town" "LOrganCensus$Town;") (List.mem_of_getElem? (i := 1) rfl)) (fun _ h9 => h9) rfl dX4_mean_1 ?_
  refine va_get (D := G.1) (ci := 5) (v := .int (α 18 0 1)) (C := RX3) (T := TX3) (N := 5) hx hb hts (fun w9 h9 => List.mem_cons_of_mem _ (List.mem_append_left _ (List.mem_append_right _ (h9)))) hown hK hP (1 + 67 * 0 + (0)) (cx_T G (z3 α β γ) (show 0 < 2 by decide)) rfl 3 (by decide) (hts (.fieldLink RX4 76 "OrganCensus$Town" "organCount" "I") (List.mem_of_getElem? (i := 2) rfl)) (fun _ h9 => h9) rfl dX4_mean_4 ?_
  refine lv_if_ne (tgt := 12) hx hb dX4_mean_7 (by decide) (fun c7 => ?_) (fun c7 => ?_)
  · refine lv_aload_n hx hb dX4_mean_12 rfl (lv_at hl 0 rfl) ?_
    refine va_get (D := G.1) (ci := 6) (v := .ref (ta G 0 (0))) (C := RX4) (T := TX4) (N := 3) hx hb hts (fun w9 h9 => List.mem_cons_of_mem _ (List.mem_append_left _ (List.mem_append_left _ (List.mem_append_right _ (h9))))) hown hK hP (0) (cx_C G (z3 α β γ)) rfl 0 (by decide) (hts (.fieldLink RX4 10 "OrganCensus" "town" "LOrganCensus$Town;") (List.mem_of_getElem? (i := 1) rfl)) (fun _ h9 => h9) rfl dX4_mean_13 ?_
    have hP : va_P G.1 vwCl (tw G (z3 α β γ) 0 α) s.heap := by rw [tz0]; exact hP
    refine o_cVi (q0 := 1 + 67 * 0 + (0)) (ci := 5) [] [] ⟨hx, hb, hml, hown, hts⟩ (m_X3_coinsOfAll l G (z3 α β γ) (show 0 < 2 by decide) α nS nO nH hz) (cwV 0 hts gX4_mean_X3_coinsOfAll rfl rfl rfl (by decide +kernel) ⟨Nat.le_of_ble_eq_true rfl, Nat.le_of_ble_eq_true rfl⟩) hK hN hP rfl rfl (tw_T G (z3 α β γ) (show 0 < 2 by decide) α) rfl hl.1 rfl (Nat.le_of_ble_eq_true rfl) dX4_mean_16 ⟨Nat.zero_le _, Nat.zero_le _⟩ ?_
    have hP : va_P G.1 vwCl (cw G (z3 α β γ)) s.heap := by rw [tz0] at hP; exact hP
    refine lv_i2d hx hb dX4_mean_19 ?_
    refine lv_aload_n hx hb dX4_mean_20 rfl (lv_at hl 0 rfl) ?_
    refine va_get (D := G.1) (ci := 6) (v := .ref (ta G 0 (0))) (C := RX4) (T := TX4) (N := 3) hx hb hts (fun w9 h9 => List.mem_cons_of_mem _ (List.mem_append_left _ (List.mem_append_left _ (List.mem_append_right _ (h9))))) hown hK hP (0) (cx_C G (z3 α β γ)) rfl 0 (by decide) (hts (.fieldLink RX4 10 "OrganCensus" "town" "LOrganCensus$Town;") (List.mem_of_getElem? (i := 1) rfl)) (fun _ h9 => h9) rfl dX4_mean_21 ?_
    refine va_get (D := G.1) (ci := 5) (v := .int (α 18 0 1)) (C := RX3) (T := TX3) (N := 5) hx hb hts (fun w9 h9 => List.mem_cons_of_mem _ (List.mem_append_left _ (List.mem_append_right _ (h9)))) hown hK hP (1 + 67 * 0 + (0)) (cx_T G (z3 α β γ) (show 0 < 2 by decide)) rfl 3 (by decide) (hts (.fieldLink RX4 76 "OrganCensus$Town" "organCount" "I") (List.mem_of_getElem? (i := 2) rfl)) (fun _ h9 => h9) rfl dX4_mean_24 ?_
    refine lv_i2d hx hb dX4_mean_27 ?_
    refine lv_ddiv hx hb dX4_mean_28 (oMean_n _ (show α 18 0 1 ≠ 0 from c7)) ?_
    exact o_dretR hx hb hr hlocks dX4_mean_29 (by first | (rw [oMean, ← hz3]; exact (if_pos (show α 18 0 1 = 0 from c7)).symm) | (rw [oMean, ← hz3]; exact (if_neg (show ¬ α 18 0 1 = 0 from c7)).symm))
  · refine lv_dconst0 hx hb dX4_mean_10 ?_
    exact o_dretR hx hb hr hlocks dX4_mean_11 (by first | (rw [oMean, ← hz3]; exact (if_pos (show α 18 0 1 = 0 from c7)).symm) | (rw [oMean, ← hz3]; exact (if_neg (show ¬ α 18 0 1 = 0 from c7)).symm))
set_option maxHeartbeats 4000000 in
set_option maxRecDepth 100000 in
theorem m_X6_mean (l : Launch) (G : oG) (hI : wl_I G.2.1 39) (α β γ : oT) (nS : Nat) (nO : Nat) (nH : Nat) (hz : qOK α nS nO nH) : Met l yX6_mean wsX6_mean ({ frames := 1, cells := 0, slots := 0, locals := 23 } : Room) (va_Pc [.ref (G.2.1 0)] (PW G (mw G (z3 α β γ)))) (oQ (some (.double (oMean (qOver α nO) nO))) (fun H9 => va_P G.1 vwCl (mw G (z3 α β (mT γ 0))) H9) (mA G)) 0 0 (mA G) := by
  refine o_body (cc := cX6_mean) (by decide +kernel) rfl (Nat.le_of_ble_eq_true rfl) ?_
  intro p e s m below meth c ls hx hb hml hr hlocks hown hts hP hK hN hl
  have hown : s.vm.findClass RX6 = some m.cls := hown
  have hl : lv_has ls 1 [(0, .ref (G.2.1 0))] := hl
  have hS : va_S (mA G) s.heap s.heap [] := va_S.rf
  obtain ⟨hz1, hz2, hz3, hz4, hz5, hz6, hz7, hz8⟩ := id hz
  refine lv_aload_n hx hb dX6_mean_0 rfl (lv_at hl 0 rfl) ?_
  refine lv_iconst (v := 0) hx hb dX6_mean_1 (by decide) ?_
  refine va_put (D := G.1) (ci := 8) (v := .int 0) (ty := .int) (C := RX6) (T := TX6) (N := 6) hx hb hts (fun w9 h9 => List.mem_cons_of_mem _ (List.mem_append_left _ (List.mem_append_right _ (h9)))) tyX6 tyX6_ok nmX6 hown hK hP (mw_D G _ hI) hS (0) (mw_M G (z3 α β γ)) rfl 0 (by decide) (hts (.fieldLink RX6 28 "OrganCensusModel" "thrown" "I") (List.mem_of_getElem? (i := 1) rfl)) (fun _ h9 => h9) rfl (by decide +kernel) rfl rfl (Nat.le_of_ble_eq_true rfl) dX6_mean_2 (fun H locs hP hD hS => ?_)
  have hP : va_P G.1 vwCl (mw G (z3 α β (su γ 41 0 0 0))) H := by rw [← (mw_zP (a := α) (b := β) (c := γ) (τ' := su γ 41 0 0 0) (mw_uM0 G (z3 α β γ) 0))]; exact hP
  clear hD
  refine lv_aload_n hx hb dX6_mean_5 rfl (lv_at hl 0 rfl) ?_
  refine va_get (D := G.1) (ci := 8) (v := .ref (ms G 0 0)) (C := RX6) (T := TX6) (N := 6) hx hb hts (fun w9 h9 => List.mem_cons_of_mem _ (List.mem_append_left _ (List.mem_append_right _ (h9)))) hown hK hP (0) (mw_M G (z3 α β (su γ 41 0 0 0))) rfl 4 (by decide) (hts (.fieldLink RX6 21 "OrganCensusModel" "s" "LOrganCensusModel$State;") (List.mem_of_getElem? (i := 2) rfl)) (fun _ h9 => h9) rfl dX6_mean_6 ?_
  refine va_getN (D := G.1) (ci := 7) (v := .int (α 40 0 2)) (C := RX5) (T := TX5) (N := 21) hx hb hts (fun w9 h9 => List.mem_cons_of_mem _ (List.mem_append_right _ (h9))) hown hK hP (3 + 18 * 0 + (0)) (mv_S G (z3 α β (su γ 41 0 0 0)) (show 0 < 2 by decide)) rfl 7 (by decide) (va_Nw.use rfl (hN.1 (RX6, 39, RX5, "organs", "I", RX6) (List.mem_of_getElem? (i := 1) rfl))) (fun _ h9 => h9) rfl dX6_mean_9 ?_
  refine lv_if_ne (tgt := 19) hx hb dX6_mean_12 (by decide) (fun c12 => ?_) (fun c12 => ?_)
  · refine lv_aload_n hx hb dX6_mean_19 rfl (lv_at hl 0 rfl) ?_
    refine va_get (D := G.1) (ci := 8) (v := .ref (ms G 0 0)) (C := RX6) (T := TX6) (N := 6) hx hb hts (fun w9 h9 => List.mem_cons_of_mem _ (List.mem_append_left _ (List.mem_append_right _ (h9)))) hown hK hP (0) (mw_M G (z3 α β (su γ 41 0 0 0))) rfl 4 (by decide) (hts (.fieldLink RX6 21 "OrganCensusModel" "s" "LOrganCensusModel$State;") (List.mem_of_getElem? (i := 2) rfl)) (fun _ h9 => h9) rfl dX6_mean_20 ?_
    refine lv_aload_n hx hb dX6_mean_23 rfl (lv_at hl 0 rfl) ?_
    refine va_get (D := G.1) (ci := 8) (v := .ref (ms G 0 0)) (C := RX6) (T := TX6) (N := 6) hx hb hts (fun w9 h9 => List.mem_cons_of_mem _ (List.mem_append_left _ (List.mem_append_right _ (h9)))) hown hK hP (0) (mw_M G (z3 α β (su γ 41 0 0 0))) rfl 4 (by decide) (hts (.fieldLink RX6 21 "OrganCensusModel" "s" "LOrganCensusModel$State;") (List.mem_of_getElem? (i := 2) rfl)) (fun _ h9 => h9) rfl dX6_mean_24 ?_
    refine va_getN (D := G.1) (ci := 7) (v := .ref (ms G 0 10)) (C := RX5) (T := TX5) (N := 21) hx hb hts (fun w9 h9 => List.mem_cons_of_mem _ (List.mem_append_right _ (h9))) hown hK hP (3 + 18 * 0 + (0)) (mv_S G (z3 α β (su γ 41 0 0 0)) (show 0 < 2 by decide)) rfl 12 (by decide) (va_Nw.use rfl (hN.1 (RX6, 122, RX5, "coins", "[I", RX6) (List.mem_of_getElem? (i := 16) rfl))) (fun _ h9 => h9) rfl dX6_mean_27 ?_
    have hP : va_P G.1 vwCl (mtw G (z3 α β (su γ 41 0 0 0)) 0 α) H := by rw [mz0]; exact hP
    refine o_cVi (q0 := 3 + 18 * 0 + (0)) (ci := 7) [.ref (ms G 0 10)] [] ⟨hx, hb, hml, hown, hts⟩ (m_X5_over l G (z3 α β (su γ 41 0 0 0)) (show 0 < 2 by decide) α nS nO nH hz) (cwV 1 hts gX6_mean_X5_over rfl rfl rfl (by decide +kernel) ⟨Nat.le_of_ble_eq_true rfl, Nat.le_of_ble_eq_true rfl⟩) hK hN hP rfl rfl (mt_S G (z3 α β (su γ 41 0 0 0)) (show 0 < 2 by decide) α) rfl hl.1 rfl (Nat.le_of_ble_eq_true rfl) dX6_mean_30 ⟨Nat.zero_le _, Nat.zero_le _⟩ ?_
    have hP : va_P G.1 vwCl (mw G (z3 α β (su γ 41 0 0 0))) H := by rw [mz0] at hP; exact hP
    refine lv_i2d hx hb dX6_mean_33 ?_
    refine lv_aload_n hx hb dX6_mean_34 rfl (lv_at hl 0 rfl) ?_
    refine va_get (D := G.1) (ci := 8) (v := .ref (ms G 0 0)) (C := RX6) (T := TX6) (N := 6) hx hb hts (fun w9 h9 => List.mem_cons_of_mem _ (List.mem_append_left _ (List.mem_append_right _ (h9)))) hown hK hP (0) (mw_M G (z3 α β (su γ 41 0 0 0))) rfl 4 (by decide) (hts (.fieldLink RX6 21 "OrganCensusModel" "s" "LOrganCensusModel$State;") (List.mem_of_getElem? (i := 2) rfl)) (fun _ h9 => h9) rfl dX6_mean_35 ?_
    refine va_getN (D := G.1) (ci := 7) (v := .int (α 40 0 2)) (C := RX5) (T := TX5) (N := 21) hx hb hts (fun w9 h9 => List.mem_cons_of_mem _ (List.mem_append_right _ (h9))) hown hK hP (3 + 18 * 0 + (0)) (mv_S G (z3 α β (su γ 41 0 0 0)) (show 0 < 2 by decide)) rfl 7 (by decide) (va_Nw.use rfl (hN.1 (RX6, 39, RX5, "organs", "I", RX6) (List.mem_of_getElem? (i := 1) rfl))) (fun _ h9 => h9) rfl dX6_mean_38 ?_
    refine lv_i2d hx hb dX6_mean_41 ?_
    refine lv_ddiv hx hb dX6_mean_42 (oMean_n _ (show α 40 0 2 ≠ 0 from c12)) ?_
    exact o_dretM hx hb hr hlocks hS dX6_mean_43 (hP) (by first | (rw [oMean, ← hz3]; exact (if_pos (show α 40 0 2 = 0 from c12)).symm) | (rw [oMean, ← hz3]; exact (if_neg (show ¬ α 40 0 2 = 0 from c12)).symm))
  · refine lv_dconst0 hx hb dX6_mean_15 ?_
    refine lv_goto (tgt := 43) hx hb dX6_mean_16 (by decide) ?_
    exact o_dretM hx hb hr hlocks hS dX6_mean_43 (hP) (by first | (rw [oMean, ← hz3]; exact (if_pos (show α 40 0 2 = 0 from c12)).symm) | (rw [oMean, ← hz3]; exact (if_neg (show ¬ α 40 0 2 = 0 from c12)).symm))
