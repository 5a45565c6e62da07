set_option maxHeartbeats 4000000 in
set_option maxRecDepth 100000 in
theorem m_X4_checkIndex (l : Launch) (G : oG) (hI : wl_I G.2.1 137) (α β γ : oT) (x : Int32) (n : Nat) (an : Int32) (en : an = nI n) (hn : n < 2 ^ 31) (hi : oIn x n = true) : Met l yX4_checkIndex wsX4_checkIndex ({ frames := 0, cells := 0, slots := 0, locals := 0 } : Room) (va_Pc [.int x, .int an] (PW G (cw G (z3 α β γ)))) (oQ none (fun H9 => va_P G.1 vwCl (cw G (z3 α β γ)) H9) (oA G)) 0 0 (oA G) := by
  subst en
  refine o_body (cc := cX4_checkIndex) (by decide +kernel) rfl (Nat.le_of_ble_eq_true rfl) ?_
  intro p e s m below meth c ls hx hb hml hr hlocks hown hts hP hK hN hl
  have hown : s.vm.findClass RX4 = some m.cls := hown
  have hl : lv_has ls 2 [(0, .int x), (1, .int (nI n))] := hl
  have hS : va_S (oA G) s.heap s.heap [] := va_S.rf
  have hl9 := oIn_lt hn hi
  have hl8 := @oN_lt x
  refine lv_iload_n hx hb dX4_checkIndex_0 rfl (lv_at hl 0 rfl) ?_
  refine lv_if_lt (tgt := 9) hx hb dX4_checkIndex_1 (by decide) (fun c1 => ?_) (fun c1 => ?_)
  · exact absurd c1 (by rw [oIn_x hi]; exact nI_pos hl8)
  · refine lv_iload_n hx hb dX4_checkIndex_4 rfl (lv_at hl 0 rfl) ?_
    refine lv_iload_n hx hb dX4_checkIndex_5 rfl (lv_at hl 1 rfl) ?_
    refine lv_icmp_lt (tgt := 19) hx hb dX4_checkIndex_6 (by decide) (fun c6 => ?_) (fun c6 => ?_)
    · have n6 := (o_nlt (a := oN x) (b := n) (oIn_x hi) rfl (by omega) (by omega)).mp c6
      exact o_vretM hx hb hr hlocks hS dX4_checkIndex_19 (hP)
    · have n6 := (mt (o_nlt (a := oN x) (b := n) (oIn_x hi) rfl (by omega) (by omega)).mpr) c6; omega
set_option maxHeartbeats 4000000 in
set_option maxRecDepth 100000 in
theorem m_X4_checkRange (l : Launch) (G : oG) (hI : wl_I G.2.1 137) (α β γ : oT) (x : Int32) (y : Int32) (z : Int32) (hi : oRg x y z = true) : Met l yX4_checkRange wsX4_checkRange ({ frames := 0, cells := 0, slots := 0, locals := 0 } : Room) (va_Pc [.int x, .int y, .int z] (PW G (cw G (z3 α β γ)))) (oQ none (fun H9 => va_P G.1 vwCl (cw G (z3 α β γ)) H9) (oA G)) 0 0 (oA G) := by
  refine o_body (cc := cX4_checkRange) (by decide +kernel) rfl (Nat.le_of_ble_eq_true rfl) ?_
  intro p e s m below meth c ls hx hb hml hr hlocks hown hts hP hK hN hl
  have hown : s.vm.findClass RX4 = some m.cls := hown
  have hl : lv_has ls 3 [(0, .int x), (1, .int y), (2, .int z)] := hl
  have hS : va_S (oA G) s.heap s.heap [] := va_S.rf
  refine lv_iload_n hx hb dX4_checkRange_0 rfl (lv_at hl 0 rfl) ?_
  refine lv_iload_n hx hb dX4_checkRange_1 rfl (lv_at hl 1 rfl) ?_
  refine lv_icmp_lt (tgt := 10) hx hb dX4_checkRange_2 (by decide) (fun c2 => ?_) (fun c2 => ?_)
  · exact absurd c2 (Int32.not_lt.mpr (oRg_1 hi).1)
  · refine lv_iload_n hx hb dX4_checkRange_5 rfl (lv_at hl 0 rfl) ?_
    refine lv_iload_n hx hb dX4_checkRange_6 rfl (lv_at hl 2 rfl) ?_
    refine lv_icmp_le (tgt := 20) hx hb dX4_checkRange_7 (by decide) (fun c7 => ?_) (fun c7 => ?_)
    · exact o_vretM hx hb hr hlocks hS dX4_checkRange_20 (hP)
    · exact absurd (oRg_1 hi).2 c7
set_option maxHeartbeats 4000000 in
set_option maxRecDepth 100000 in
theorem m_X4_checkStreet (l : Launch) (G : oG) (hI : wl_I G.2.1 137) (α β γ : oT) (nS : Nat) (nO : Nat) (nH : Nat) (hz : oOK α nS nO nH) (x : Int32) (hi : oIn x nS = true) : Met l yX4_checkStreet wsX4_checkStreet ({ frames := 1, cells := 0, slots := 0, locals := 21 } : Room) (va_Pc [.ref (G.2.1 0), .int x] (PW G (cw G (z3 α β γ)))) (oQ none (fun H9 => va_P G.1 vwCl (cw G (z3 α β γ)) H9) (oA G)) 0 0 (oA G) := by
  refine o_body (cc := cX4_checkStreet) (by decide +kernel) rfl (Nat.le_of_ble_eq_true rfl) ?_
  intro p e s m below meth c ls hx hb hml hr hlocks hown hts hP hK hN hl
  have hown : s.vm.findClass RX4 = some m.cls := hown
  have hl : lv_has ls 2 [(0, .ref (G.2.1 0)), (1, .int x)] := hl
  have hS : va_S (oA G) s.heap s.heap [] := va_S.rf
  obtain ⟨hz1, hz2, hz3, hz4, hz5, hz6, hz7⟩ := id hz
  refine lv_iload_n hx hb dX4_checkStreet_0 rfl (lv_at hl 1 rfl) ?_
  refine lv_aload_n hx hb dX4_checkStreet_1 rfl (lv_at hl 0 rfl) ?_
  refine va_get (D := G.1) (ci := 6) (v := .ref (ta G 0 (0))) (C := RX4) (T := TX4) (N := 3) hx hb hts (fun w9 h9 => List.mem_cons_of_mem _ (List.mem_append_left _ (List.mem_append_left _ (List.mem_append_right _ (h9))))) hown hK hP (0) (cx_C G (z3 α β γ)) rfl 0 (by decide) (hts (.fieldLink RX4 10 "OrganCensus" "town" "LOrganCensus$Town;") (List.mem_of_getElem? (i := 1) rfl)) (fun _ h9 => h9) rfl dX4_checkStreet_2 ?_
  refine va_get (D := G.1) (ci := 5) (v := .int (α 18 0 0)) (C := RX3) (T := TX3) (N := 5) hx hb hts (fun w9 h9 => List.mem_cons_of_mem _ (List.mem_append_left _ (List.mem_append_right _ (h9)))) hown hK hP (1 + 67 * 0 + (0)) (cx_T G (z3 α β γ) (show 0 < 2 by decide)) rfl 2 (by decide) (hts (.fieldLink RX4 30 "OrganCensus$Town" "streetCount" "I") (List.mem_of_getElem? (i := 2) rfl)) (fun _ h9 => h9) rfl dX4_checkStreet_5 ?_
  refine o_cSmv [.int x, .int (α 18 0 0)] [] ⟨hx, hb, hml, hown, hts⟩ (m_X4_checkIndex l G hI α β γ x nS (α 18 0 0) (hz.1) (by omega) (hi)) (va_cwS 2 hts gX4_checkStreet_X4_checkIndex rfl rfl rfl (by decide +kernel) ⟨Nat.le_of_ble_eq_true rfl, Nat.le_of_ble_eq_true rfl⟩) hK hN hP hS rfl hl.1 rfl (Nat.le_of_ble_eq_true rfl) dX4_checkStreet_8 ⟨Nat.zero_le _, Nat.zero_le _⟩ (fun H locs hP hS => ?_)
  exact o_vretM hx hb hr hlocks hS dX4_checkStreet_11 (hP)
set_option maxHeartbeats 4000000 in
set_option maxRecDepth 100000 in
theorem m_X4_checkOrgan (l : Launch) (G : oG) (hI : wl_I G.2.1 137) (α β γ : oT) (nS : Nat) (nO : Nat) (nH : Nat) (hz : oOK α nS nO nH) (x : Int32) (hi : oIn x nO = true) : Met l yX4_checkOrgan wsX4_checkOrgan ({ frames := 1, cells := 0, slots := 0, locals := 21 } : Room) (va_Pc [.ref (G.2.1 0), .int x] (PW G (cw G (z3 α β γ)))) (oQ none (fun H9 => va_P G.1 vwCl (cw G (z3 α β γ)) H9) (oA G)) 0 0 (oA G) := by
  refine o_body (cc := cX4_checkOrgan) (by decide +kernel) rfl (Nat.le_of_ble_eq_true rfl) ?_
  intro p e s m below meth c ls hx hb hml hr hlocks hown hts hP hK hN hl
  have hown : s.vm.findClass RX4 = some m.cls := hown
  have hl : lv_has ls 2 [(0, .ref (G.2.1 0)), (1, .int x)] := hl
  have hS : va_S (oA G) s.heap s.heap [] := va_S.rf
  obtain ⟨hz1, hz2, hz3, hz4, hz5, hz6, hz7⟩ := id hz
  refine lv_iload_n hx hb dX4_checkOrgan_0 rfl (lv_at hl 1 rfl) ?_
  refine lv_aload_n hx hb dX4_checkOrgan_1 rfl (lv_at hl 0 rfl) ?_
  refine va_get (D := G.1) (ci := 6) (v := .ref (ta G 0 (0))) (C := RX4) (T := TX4) (N := 3) hx hb hts (fun w9 h9 => List.mem_cons_of_mem _ (List.mem_append_left _ (List.mem_append_left _ (List.mem_append_right _ (h9))))) hown hK hP (0) (cx_C G (z3 α β γ)) rfl 0 (by decide) (hts (.fieldLink RX4 10 "OrganCensus" "town" "LOrganCensus$Town;") (List.mem_of_getElem? (i := 1) rfl)) (fun _ h9 => h9) rfl dX4_checkOrgan_2 ?_
  refine va_get (D := G.1) (ci := 5) (v := .int (α 18 0 1)) (C := RX3) (T := TX3) (N := 5) hx hb hts (fun w9 h9 => List.mem_cons_of_mem _ (List.mem_append_left _ (List.mem_append_right _ (h9)))) hown hK hP (1 + 67 * 0 + (0)) (cx_T G (z3 α β γ) (show 0 < 2 by decide)) rfl 3 (by decide) (hts (.fieldLink RX4 76 "OrganCensus$Town" "organCount" "I") (List.mem_of_getElem? (i := 2) rfl)) (fun _ h9 => h9) rfl dX4_checkOrgan_5 ?_
  refine o_cSmv [.int x, .int (α 18 0 1)] [] ⟨hx, hb, hml, hown, hts⟩ (m_X4_checkIndex l G hI α β γ x nO (α 18 0 1) (hz.2.2.1) (by omega) (hi)) (va_cwS 2 hts gX4_checkOrgan_X4_checkIndex rfl rfl rfl (by decide +kernel) ⟨Nat.le_of_ble_eq_true rfl, Nat.le_of_ble_eq_true rfl⟩) hK hN hP hS rfl hl.1 rfl (Nat.le_of_ble_eq_true rfl) dX4_checkOrgan_8 ⟨Nat.zero_le _, Nat.zero_le _⟩ (fun H locs hP hS => ?_)
  exact o_vretM hx hb hr hlocks hS dX4_checkOrgan_11 (hP)
set_option maxHeartbeats 4000000 in
set_option maxRecDepth 100000 in
theorem m_X4_checkPitch (l : Launch) (G : oG) (hI : wl_I G.2.1 137) (α β γ : oT) (nS : Nat) (nO : Nat) (nH : Nat) (hz : oOK α nS nO nH) (x : Int32) (y : Int32) (hi : oIn x nS = true) (hj : oIn y (oNp α (oN x)) = true) : Met l yX4_checkPitch wsX4_checkPitch ({ frames := 2, cells := 0, slots := 0, locals := 42 } : Room) (va_Pc [.ref (G.2.1 0), .int x, .int y] (PW G (cw G (z3 α β γ)))) (oQ none (fun H9 => va_P G.1 vwCl (cw G (z3 α β γ)) H9) (oA G)) 0 0 (oA G) := by
  refine o_body (cc := cX4_checkPitch) (by decide +kernel) rfl (Nat.le_of_ble_eq_true rfl) ?_
  intro p e s m below meth c ls hx hb hml hr hlocks hown hts hP hK hN hl
  have hown : s.vm.findClass RX4 = some m.cls := hown
  have hl : lv_has ls 3 [(0, .ref (G.2.1 0)), (1, .int x), (2, .int y)] := hl
  have hS : va_S (oA G) s.heap s.heap [] := va_S.rf
  obtain ⟨hz1, hz2, hz3, hz4, hz5, hz6, hz7⟩ := id hz
  have n1 := oIn_lt (by omega) hi
  have hp1 := (hz7 (oN x) (by omega)).2
  refine lv_aload_n hx hb dX4_checkPitch_0 rfl (lv_at hl 0 rfl) ?_
  refine lv_iload_n hx hb dX4_checkPitch_1 rfl (lv_at hl 1 rfl) ?_
  refine o_cVmv (q0 := 0) (ci := 6) [.int x] [] ⟨hx, hb, hml, hown, hts⟩ (m_X4_checkStreet l G hI α β γ nS nO nH hz x (hi)) (cwV 1 hts gX4_checkPitch_X4_checkStreet rfl rfl rfl (by decide +kernel) ⟨Nat.le_of_ble_eq_true rfl, Nat.le_of_ble_eq_true rfl⟩) hK hN hP hS rfl rfl (cx_C G (z3 α β γ)) rfl hl.1 rfl (Nat.le_of_ble_eq_true rfl) dX4_checkPitch_2 ⟨Nat.zero_le _, Nat.zero_le _⟩ (fun H locs hP hS => ?_)
  refine lv_iload_n hx hb dX4_checkPitch_5 rfl (lv_at hl 2 rfl) ?_
  refine lv_aload_n hx hb dX4_checkPitch_6 rfl (lv_at hl 0 rfl) ?_
  refine va_get (D := G.1) (ci := 6) (v := .ref (ta G 0 (0))) (C := RX4) (T := TX4) (N := 3) hx hb hts (fun w9 h9 => List.mem_cons_of_mem _ (List.mem_append_left _ (List.mem_append_left _ (List.mem_append_left _ (List.mem_append_right _ (h9)))))) hown hK hP (0) (cx_C G (z3 α β γ)) rfl 0 (by decide) (hts (.fieldLink RX4 10 "OrganCensus" "town" "LOrganCensus$Town;") (List.mem_of_getElem? (i := 1) rfl)) (fun _ h9 => h9) rfl dX4_checkPitch_7 ?_
  refine va_get (D := G.1) (ci := 5) (v := .ref (ta G 0 (1))) (C := RX3) (T := TX3) (N := 5) hx hb hts (fun w9 h9 => List.mem_cons_of_mem _ (List.mem_append_left _ (List.mem_append_left _ (List.mem_append_right _ (h9))))) hown hK hP (1 + 67 * 0 + (0)) (cx_T G (z3 α β γ) (show 0 < 2 by decide)) rfl 0 (by decide) (hts (.fieldLink RX4 53 "OrganCensus$Town" "streets" "[LOrganCensus$Street;") (List.mem_of_getElem? (i := 2) rfl)) (fun _ h9 => h9) rfl dX4_checkPitch_10 ?_
  refine lv_iload_n hx hb dX4_checkPitch_13 rfl (lv_at hl 1 rfl) ?_
  refine o_aald (k := oN x) (C := RX2) hx hb hK hP (1 + 67 * 0 + (1)) 1 (cx_SA G (z3 α β γ) (show 0 < 2 by decide)) rfl (oIn_x hi) (by omega) (by decide) rfl dX4_checkPitch_14 ?_
  refine va_get (D := G.1) (ci := 4) (v := .int (α 3 (oN x) 0)) (C := RX2) (T := TX2) (N := 6) hx hb hts (fun w9 h9 => List.mem_cons_of_mem _ (List.mem_append_left _ (List.mem_append_right _ (h9)))) hown hK hP (1 + 67 * 0 + (3 + 4 * (oN x))) (cx_S G (z3 α β γ) (show 0 < 2 by decide) (by omega)) rfl 3 (by decide) (hts (.fieldLink RX4 143 "OrganCensus$Street" "pitches" "I") (List.mem_of_getElem? (i := 3) rfl)) (fun _ h9 => h9) rfl dX4_checkPitch_15 ?_
  refine o_cSmv [.int y, .int (α 3 (oN x) 0)] [] ⟨hx, hb, hml, hown, hts⟩ (m_X4_checkIndex l G hI α β γ y (oNp α (oN x)) (α 3 (oN x) 0) ((hz.2.2.2.2.2.2 (oN x) (by omega)).1) (by omega) (hj)) (va_cwS 2 hts gX4_checkPitch_X4_checkIndex rfl rfl rfl (by decide +kernel) ⟨Nat.le_of_ble_eq_true rfl, Nat.le_of_ble_eq_true rfl⟩) hK hN hP hS rfl hl.1 rfl (Nat.le_of_ble_eq_true rfl) dX4_checkPitch_18 ⟨Nat.zero_le _, Nat.zero_le _⟩ (fun H locs hP hS => ?_)
  exact o_vretM hx hb hr hlocks hS dX4_checkPitch_21 (hP)
set_option maxHeartbeats 4000000 in
set_option maxRecDepth 100000 in
theorem m_X4_build (l : Launch) (G : oG) (hI : wl_I G.2.1 137) (α β γ : oT) (nS : Nat) (nO : Nat) (nH : Nat) (hz : oOK α nS nO nH) (x : Int32) (h1 : oRg x 3 20 = true) (h2 : nS < 6) : Met l yX4_build wsX4_build ({ frames := 1, cells := 0, slots := 0, locals := 22 } : Room) (va_Pc [.ref (G.2.1 0), .int x] (PW G (cw G (z3 α β γ)))) (oQ (some (.int (nI nS))) (fun H9 => va_P G.1 vwCl (cw G (z3 (su (su α 3 nS 0 x) 18 0 0 (nI (nS + 1))) β γ)) H9) (oA G)) 0 0 (oA G) := by
  refine o_body (cc := cX4_build) (by decide +kernel) rfl (Nat.le_of_ble_eq_true rfl) ?_
  intro p e s m below meth c ls hx hb hml hr hlocks hown hts hP hK hN hl
  have hown : s.vm.findClass RX4 = some m.cls := hown
  have hl : lv_has ls 2 [(0, .ref (G.2.1 0)), (1, .int x)] := hl
  have hS : va_S (oA G) s.heap s.heap [] := va_S.rf
  obtain ⟨hz1, hz2, hz3, hz4, hz5, hz6, hz7⟩ := id hz
  refine lv_iload_n hx hb dX4_build_0 rfl (lv_at hl 1 rfl) ?_
  refine lv_iconst (v := 3) hx hb dX4_build_1 (by decide) ?_
  refine lv_bipush (v := 20) hx hb dX4_build_2 (by decide) ?_
  refine o_cSmv [.int x, .int 3, .int 20] [] ⟨hx, hb, hml, hown, hts⟩ (m_X4_checkRange l G hI α β γ x 3 20 (h1)) (va_cwS 3 hts gX4_build_X4_checkRange rfl rfl rfl (by decide +kernel) ⟨Nat.le_of_ble_eq_true rfl, Nat.le_of_ble_eq_true rfl⟩) hK hN hP hS rfl hl.1 rfl (Nat.le_of_ble_eq_true rfl) dX4_build_4 ⟨Nat.zero_le _, Nat.zero_le _⟩ (fun H locs hP hS => ?_)
  refine lv_aload_n hx hb dX4_build_7 rfl (lv_at hl 0 rfl) ?_
  refine va_get (D := G.1) (ci := 6) (v := .ref (ta G 0 (0))) (C := RX4) (T := TX4) (N := 3) hx hb hts (fun w9 h9 => List.mem_cons_of_mem _ (List.mem_append_left _ (List.mem_append_left _ (List.mem_append_left _ (List.mem_append_left _ (List.mem_append_right _ (h9))))))) hown hK hP (0) (cx_C G (z3 α β γ)) rfl 0 (by decide) (hts (.fieldLink RX4 10 "OrganCensus" "town" "LOrganCensus$Town;") (List.mem_of_getElem? (i := 3) rfl)) (fun _ h9 => h9) rfl dX4_build_8 ?_
  refine va_get (D := G.1) (ci := 5) (v := .int (α 18 0 0)) (C := RX3) (T := TX3) (N := 5) hx hb hts (fun w9 h9 => List.mem_cons_of_mem _ (List.mem_append_left _ (List.mem_append_left _ (List.mem_append_left _ (List.mem_append_right _ (h9)))))) hown hK hP (1 + 67 * 0 + (0)) (cx_T G (z3 α β γ) (show 0 < 2 by decide)) rfl 2 (by decide) (hts (.fieldLink RX4 30 "OrganCensus$Town" "streetCount" "I") (List.mem_of_getElem? (i := 4) rfl)) (fun _ h9 => h9) rfl dX4_build_11 ?_
  refine lv_bipush (v := 6) hx hb dX4_build_14 (by decide) ?_
  refine lv_icmp_lt (tgt := 29) hx hb dX4_build_16 (by decide) (fun c16 => ?_) (fun c16 => ?_)
  · have n16 := (o_nlt (a := nS) (b := 6) hz.1 (by decide) (by omega) (by omega)).mp c16
    refine lv_aload_n hx hb dX4_build_29 rfl (lv_at hl 0 rfl) ?_
    refine va_get (D := G.1) (ci := 6) (v := .ref (ta G 0 (0))) (C := RX4) (T := TX4) (N := 3) hx hb hts (fun w9 h9 => List.mem_cons_of_mem _ (List.mem_append_left _ (List.mem_append_left _ (List.mem_append_left _ (List.mem_append_left _ (List.mem_append_right _ (h9))))))) hown hK hP (0) (cx_C G (z3 α β γ)) rfl 0 (by decide) (hts (.fieldLink RX4 10 "OrganCensus" "town" "LOrganCensus$Town;") (List.mem_of_getElem? (i := 3) rfl)) (fun _ h9 => h9) rfl dX4_build_30 ?_
    refine lv_iload_n hx hb dX4_build_33 rfl (lv_at hl 1 rfl) ?_
    have hP : va_P G.1 vwCl (tw G (z3 α β γ) 0 α) H := by rw [tz0]; exact hP
    refine o_cVmi (q0 := 1 + 67 * 0 + (0)) (ci := 5) [.int x] [] ⟨hx, hb, hml, hown, hts⟩ (m_X3_newStreet l G (z3 α β γ) (show 0 < 2 by decide) hI α nS nO nH hz (by omega) x) (cwV 1 hts gX4_build_X3_newStreet rfl rfl rfl (by decide +kernel) ⟨Nat.le_of_ble_eq_true rfl, Nat.le_of_ble_eq_true rfl⟩) hK hN hP hS rfl rfl (tw_T G (z3 α β γ) (show 0 < 2 by decide) α) rfl hl.1 rfl (Nat.le_of_ble_eq_true rfl) dX4_build_34 ⟨Nat.zero_le _, Nat.zero_le _⟩ (fun H locs hP hS => ?_)
    have hP : va_P G.1 vwCl (cw G (z3 (su (su α 3 nS 0 x) 18 0 0 (nI (nS + 1))) β γ)) H := by rw [tz0] at hP; exact hP
    exact o_iretM hx hb hr hlocks hS dX4_build_37 (hP) (rfl)
  · have n16 := (mt (o_nlt (a := nS) (b := 6) hz.1 (by decide) (by omega) (by omega)).mpr) c16; omega
set_option maxHeartbeats 4000000 in
set_option maxRecDepth 100000 in
theorem m_X4_setPassers (l : Launch) (G : oG) (hI : wl_I G.2.1 137) (α β γ : oT) (nS : Nat) (nO : Nat) (nH : Nat) (hz : oOK α nS nO nH) (x : Int32) (y : Int32) (z : Int32) (h1 : oIn x nS = true) (h2 : oIn y 24 = true) (h3 : oRg z 0 99 = true) : Met l yX4_setPassers wsX4_setPassers ({ frames := 2, cells := 0, slots := 0, locals := 42 } : Room) (va_Pc [.ref (G.2.1 0), .int x, .int y, .int z] (PW G (cw G (z3 α β γ)))) (oQ (some (.int (α 0 (oN x) (oN y)))) (fun H9 => va_P G.1 vwCl (cw G (z3 (su α 0 (oN x) (oN y) z) β γ)) H9) (oA G)) 0 0 (oA G) := by
  refine o_body (cc := cX4_setPassers) (by decide +kernel) rfl (Nat.le_of_ble_eq_true rfl) ?_
  intro p e s m below meth c ls hx hb hml hr hlocks hown hts hP hK hN hl
  have hown : s.vm.findClass RX4 = some m.cls := hown
  have hl : lv_has ls 6 [(0, .ref (G.2.1 0)), (1, .int x), (2, .int y), (3, .int z)] := hl
  have hS : va_S (oA G) s.heap s.heap [] := va_S.rf
  obtain ⟨hz1, hz2, hz3, hz4, hz5, hz6, hz7⟩ := id hz
  have n1 := oIn_lt (by omega) h1
  have n2 := oIn_lt (by omega) h2
  refine lv_aload_n hx hb dX4_setPassers_0 rfl (lv_at hl 0 rfl) ?_
  refine lv_iload_n hx hb dX4_setPassers_1 rfl (lv_at hl 1 rfl) ?_
  refine o_cVmv (q0 := 0) (ci := 6) [.int x] [] ⟨hx, hb, hml, hown, hts⟩ (m_X4_checkStreet l G hI α β γ nS nO nH hz x (h1)) (cwV 1 hts gX4_setPassers_X4_checkStreet rfl rfl rfl (by decide +kernel) ⟨Nat.le_of_ble_eq_true rfl, Nat.le_of_ble_eq_true rfl⟩) hK hN hP hS rfl rfl (cx_C G (z3 α β γ)) rfl hl.1 rfl (Nat.le_of_ble_eq_true rfl) dX4_setPassers_2 ⟨Nat.zero_le _, Nat.zero_le _⟩ (fun H locs hP hS => ?_)
  refine lv_iload_n hx hb dX4_setPassers_5 rfl (lv_at hl 2 rfl) ?_
  refine lv_bipush (v := 24) hx hb dX4_setPassers_6 (by decide) ?_
  refine o_cSmv [.int y, .int 24] [] ⟨hx, hb, hml, hown, hts⟩ (m_X4_checkIndex l G hI α β γ y 24 24 ((by decide)) (by omega) (h2)) (va_cwS 2 hts gX4_setPassers_X4_checkIndex rfl rfl rfl (by decide +kernel) ⟨Nat.le_of_ble_eq_true rfl, Nat.le_of_ble_eq_true rfl⟩) hK hN hP hS rfl hl.1 rfl (Nat.le_of_ble_eq_true rfl) dX4_setPassers_8 ⟨Nat.zero_le _, Nat.zero_le _⟩ (fun H locs hP hS => ?_)
  refine lv_iload_n hx hb dX4_setPassers_11 rfl (lv_at hl 3 rfl) ?_
  refine lv_iconst (v := 0) hx hb dX4_setPassers_12 (by decide) ?_
  refine lv_bipush (v := 99) hx hb dX4_setPassers_13 (by decide) ?_
  refine o_cSmv [.int z, .int 0, .int 99] [] ⟨hx, hb, hml, hown, hts⟩ (m_X4_checkRange l G hI α β γ z 0 99 (h3)) (va_cwS 3 hts gX4_setPassers_X4_checkRange rfl rfl rfl (by decide +kernel) ⟨Nat.le_of_ble_eq_true rfl, Nat.le_of_ble_eq_true rfl⟩) hK hN hP hS rfl hl.1 rfl (Nat.le_of_ble_eq_true rfl) dX4_setPassers_15 ⟨Nat.zero_le _, Nat.zero_le _⟩ (fun H locs hP hS => ?_)
  refine lv_aload_n hx hb dX4_setPassers_18 rfl (lv_at hl 0 rfl) ?_
  refine va_get (D := G.1) (ci := 6) (v := .ref (ta G 0 (0))) (C := RX4) (T := TX4) (N := 3) hx hb hts (fun w9 h9 => List.mem_cons_of_mem _ (List.mem_append_left _ (List.mem_append_left _ (List.mem_append_left _ (List.mem_append_left _ (List.mem_append_right _ (h9))))))) hown hK hP (0) (cx_C G (z3 α β γ)) rfl 0 (by decide) (hts (.fieldLink RX4 10 "OrganCensus" "town" "LOrganCensus$Town;") (List.mem_of_getElem? (i := 1) rfl)) (fun _ h9 => h9) rfl dX4_setPassers_19 ?_
  refine va_get (D := G.1) (ci := 5) (v := .ref (ta G 0 (1))) (C := RX3) (T := TX3) (N := 5) hx hb hts (fun w9 h9 => List.mem_cons_of_mem _ (List.mem_append_left _ (List.mem_append_left _ (List.mem_append_left _ (List.mem_append_right _ (h9)))))) hown hK hP (1 + 67 * 0 + (0)) (cx_T G (z3 α β γ) (show 0 < 2 by decide)) rfl 0 (by decide) (hts (.fieldLink RX4 53 "OrganCensus$Town" "streets" "[LOrganCensus$Street;") (List.mem_of_getElem? (i := 2) rfl)) (fun _ h9 => h9) rfl dX4_setPassers_22 ?_
  refine lv_iload_n hx hb dX4_setPassers_25 rfl (lv_at hl 1 rfl) ?_
  refine o_aald (k := oN x) (C := RX2) hx hb hK hP (1 + 67 * 0 + (1)) 1 (cx_SA G (z3 α β γ) (show 0 < 2 by decide)) rfl (oIn_x h1) (by omega) (by decide) rfl dX4_setPassers_26 ?_
  refine va_get (D := G.1) (ci := 4) (v := .ref (ta G 0 (4 + 4 * (oN x)))) (C := RX2) (T := TX2) (N := 6) hx hb hts (fun w9 h9 => List.mem_cons_of_mem _ (List.mem_append_left _ (List.mem_append_left _ (List.mem_append_right _ (h9))))) hown hK hP (1 + 67 * 0 + (3 + 4 * (oN x))) (cx_S G (z3 α β γ) (show 0 < 2 by decide) (by omega)) rfl 0 (by decide) (hts (.fieldLink RX4 57 "OrganCensus$Street" "passersByHour" "[I") (List.mem_of_getElem? (i := 3) rfl)) (fun _ h9 => h9) rfl dX4_setPassers_27 ?_
  refine lv_astore (lv' := [(4, .ref (ta G 0 (4 + 4 * (oN x)))), (0, .ref (G.2.1 0)), (1, .int x), (2, .int y), (3, .int z)]) hx hb dX4_setPassers_30 hl (by decide) rfl (fun ls hl => ?_)
  refine lv_aload hx hb dX4_setPassers_32 (lv_at hl 0 rfl) ?_
  refine lv_iload_n hx hb dX4_setPassers_34 rfl (lv_at hl 3 rfl) ?_
  refine o_iald (k := oN y) hx hb hK hP (1 + 67 * 0 + (4 + 4 * (oN x))) 0 (cx_Sp G (z3 α β γ) (show 0 < 2 by decide) (by omega)) rfl (oIn_x h2) (by omega) (by decide) dX4_setPassers_35 ?_
  refine lv_istore (lv' := [(5, .int (α 0 (oN x) (oN y))), (4, .ref (ta G 0 (4 + 4 * (oN x)))), (0, .ref (G.2.1 0)), (1, .int x), (2, .int y), (3, .int z)]) hx hb dX4_setPassers_36 hl (by decide) rfl (fun ls hl => ?_)
  refine lv_aload hx hb dX4_setPassers_38 (lv_at hl 1 rfl) ?_
  refine lv_iload_n hx hb dX4_setPassers_40 rfl (lv_at hl 4 rfl) ?_
  refine lv_iload_n hx hb dX4_setPassers_41 rfl (lv_at hl 5 rfl) ?_
  refine o_iast (k := oN y) hx hb hK hP (cw_D G _ hI) hS (1 + 67 * 0 + (4 + 4 * (oN x))) 0 (cx_Sp G (z3 α β γ) (show 0 < 2 by decide) (by omega)) rfl (oIn_x h2) (by omega) (by decide) dX4_setPassers_42 (fun H locs hP hD hS => ?_)
  have hP : va_P G.1 vwCl (cw G (z3 (su α 0 (oN x) (oN y) z) β γ)) H := by rw [← (cu_z0 (a := α) (b := β) (c := γ) (τ' := su α 0 (oN x) (oN y) z) (cu_S0 G (z3 α β γ) (show 0 < 2 by decide) (by omega) (oN y) z))]; exact hP
  clear hD
  refine lv_iload hx hb dX4_setPassers_43 (lv_at hl 0 rfl) ?_
  exact o_iretM hx hb hr hlocks hS dX4_setPassers_45 (hP) (rfl)
set_option maxHeartbeats 4000000 in
set_option maxRecDepth 100000 in
theorem m_X4_setTaste (l : Launch) (G : oG) (hI : wl_I G.2.1 137) (α β γ : oT) (nS : Nat) (nO : Nat) (nH : Nat) (hz : oOK α nS nO nH) (x : Int32) (y : Int32) (z : Int32) (h1 : oIn x nS = true) (h2 : oIn y 6 = true) (h3 : oRg z 0 9 = true) : Met l yX4_setTaste wsX4_setTaste ({ frames := 2, cells := 0, slots := 0, locals := 42 } : Room) (va_Pc [.ref (G.2.1 0), .int x, .int y, .int z] (PW G (cw G (z3 α β γ)))) (oQ (some (.int (α 1 (oN x) (oN y)))) (fun H9 => va_P G.1 vwCl (cw G (z3 (su α 1 (oN x) (oN y) z) β γ)) H9) (oA G)) 0 0 (oA G) := by
  refine o_body (cc := cX4_setTaste) (by decide +kernel) rfl (Nat.le_of_ble_eq_true rfl) ?_
  intro p e s m below meth c ls hx hb hml hr hlocks hown hts hP hK hN hl
  have hown : s.vm.findClass RX4 = some m.cls := hown
  have hl : lv_has ls 6 [(0, .ref (G.2.1 0)), (1, .int x), (2, .int y), (3, .int z)] := hl
  have hS : va_S (oA G) s.heap s.heap [] := va_S.rf
  obtain ⟨hz1, hz2, hz3, hz4, hz5, hz6, hz7⟩ := id hz
  have n1 := oIn_lt (by omega) h1
  have n2 := oIn_lt (by omega) h2
  refine lv_aload_n hx hb dX4_setTaste_0 rfl (lv_at hl 0 rfl) ?_
  refine lv_iload_n hx hb dX4_setTaste_1 rfl (lv_at hl 1 rfl) ?_
  refine o_cVmv (q0 := 0) (ci := 6) [.int x] [] ⟨hx, hb, hml, hown, hts⟩ (m_X4_checkStreet l G hI α β γ nS nO nH hz x (h1)) (cwV 1 hts gX4_setTaste_X4_checkStreet rfl rfl rfl (by decide +kernel) ⟨Nat.le_of_ble_eq_true rfl, Nat.le_of_ble_eq_true rfl⟩) hK hN hP hS rfl rfl (cx_C G (z3 α β γ)) rfl hl.1 rfl (Nat.le_of_ble_eq_true rfl) dX4_setTaste_2 ⟨Nat.zero_le _, Nat.zero_le _⟩ (fun H locs hP hS => ?_)
  refine lv_iload_n hx hb dX4_setTaste_5 rfl (lv_at hl 2 rfl) ?_
  refine lv_bipush (v := 6) hx hb dX4_setTaste_6 (by decide) ?_
  refine o_cSmv [.int y, .int 6] [] ⟨hx, hb, hml, hown, hts⟩ (m_X4_checkIndex l G hI α β γ y 6 6 ((by decide)) (by omega) (h2)) (va_cwS 2 hts gX4_setTaste_X4_checkIndex rfl rfl rfl (by decide +kernel) ⟨Nat.le_of_ble_eq_true rfl, Nat.le_of_ble_eq_true rfl⟩) hK hN hP hS rfl hl.1 rfl (Nat.le_of_ble_eq_true rfl) dX4_setTaste_8 ⟨Nat.zero_le _, Nat.zero_le _⟩ (fun H locs hP hS => ?_)
  refine lv_iload_n hx hb dX4_setTaste_11 rfl (lv_at hl 3 rfl) ?_
  refine lv_iconst (v := 0) hx hb dX4_setTaste_12 (by decide) ?_
  refine lv_bipush (v := 9) hx hb dX4_setTaste_13 (by decide) ?_
  refine o_cSmv [.int z, .int 0, .int 9] [] ⟨hx, hb, hml, hown, hts⟩ (m_X4_checkRange l G hI α β γ z 0 9 (h3)) (va_cwS 3 hts gX4_setTaste_X4_checkRange rfl rfl rfl (by decide +kernel) ⟨Nat.le_of_ble_eq_true rfl, Nat.le_of_ble_eq_true rfl⟩) hK hN hP hS rfl hl.1 rfl (Nat.le_of_ble_eq_true rfl) dX4_setTaste_15 ⟨Nat.zero_le _, Nat.zero_le _⟩ (fun H locs hP hS => ?_)
  refine lv_aload_n hx hb dX4_setTaste_18 rfl (lv_at hl 0 rfl) ?_
  refine va_get (D := G.1) (ci := 6) (v := .ref (ta G 0 (0))) (C := RX4) (T := TX4) (N := 3) hx hb hts (fun w9 h9 => List.mem_cons_of_mem _ (List.mem_append_left _ (List.mem_append_left _ (List.mem_append_left _ (List.mem_append_left _ (List.mem_append_right _ (h9))))))) hown hK hP (0) (cx_C G (z3 α β γ)) rfl 0 (by decide) (hts (.fieldLink RX4 10 "OrganCensus" "town" "LOrganCensus$Town;") (List.mem_of_getElem? (i := 1) rfl)) (fun _ h9 => h9) rfl dX4_setTaste_19 ?_
  refine va_get (D := G.1) (ci := 5) (v := .ref (ta G 0 (1))) (C := RX3) (T := TX3) (N := 5) hx hb hts (fun w9 h9 => List.mem_cons_of_mem _ (List.mem_append_left _ (List.mem_append_left _ (List.mem_append_left _ (List.mem_append_right _ (h9)))))) hown hK hP (1 + 67 * 0 + (0)) (cx_T G (z3 α β γ) (show 0 < 2 by decide)) rfl 0 (by decide) (hts (.fieldLink RX4 53 "OrganCensus$Town" "streets" "[LOrganCensus$Street;") (List.mem_of_getElem? (i := 2) rfl)) (fun _ h9 => h9) rfl dX4_setTaste_22 ?_
  refine lv_iload_n hx hb dX4_setTaste_25 rfl (lv_at hl 1 rfl) ?_
  refine o_aald (k := oN x) (C := RX2) hx hb hK hP (1 + 67 * 0 + (1)) 1 (cx_SA G (z3 α β γ) (show 0 < 2 by decide)) rfl (oIn_x h1) (by omega) (by decide) rfl dX4_setTaste_26 ?_
  refine va_get (D := G.1) (ci := 4) (v := .ref (ta G 0 (5 + 4 * (oN x)))) (C := RX2) (T := TX2) (N := 6) hx hb hts (fun w9 h9 => List.mem_cons_of_mem _ (List.mem_append_left _ (List.mem_append_left _ (List.mem_append_right _ (h9))))) hown hK hP (1 + 67 * 0 + (3 + 4 * (oN x))) (cx_S G (z3 α β γ) (show 0 < 2 by decide) (by omega)) rfl 1 (by decide) (hts (.fieldLink RX4 63 "OrganCensus$Street" "tastes" "[I") (List.mem_of_getElem? (i := 3) rfl)) (fun _ h9 => h9) rfl dX4_setTaste_27 ?_
  refine lv_astore (lv' := [(4, .ref (ta G 0 (5 + 4 * (oN x)))), (0, .ref (G.2.1 0)), (1, .int x), (2, .int y), (3, .int z)]) hx hb dX4_setTaste_30 hl (by decide) rfl (fun ls hl => ?_)
  refine lv_aload hx hb dX4_setTaste_32 (lv_at hl 0 rfl) ?_
  refine lv_iload_n hx hb dX4_setTaste_34 rfl (lv_at hl 3 rfl) ?_
  refine o_iald (k := oN y) hx hb hK hP (1 + 67 * 0 + (5 + 4 * (oN x))) 0 (cx_St G (z3 α β γ) (show 0 < 2 by decide) (by omega)) rfl (oIn_x h2) (by omega) (by decide) dX4_setTaste_35 ?_
  refine lv_istore (lv' := [(5, .int (α 1 (oN x) (oN y))), (4, .ref (ta G 0 (5 + 4 * (oN x)))), (0, .ref (G.2.1 0)), (1, .int x), (2, .int y), (3, .int z)]) hx hb dX4_setTaste_36 hl (by decide) rfl (fun ls hl => ?_)
  refine lv_aload hx hb dX4_setTaste_38 (lv_at hl 1 rfl) ?_
  refine lv_iload_n hx hb dX4_setTaste_40 rfl (lv_at hl 4 rfl) ?_
  refine lv_iload_n hx hb dX4_setTaste_41 rfl (lv_at hl 5 rfl) ?_
  refine o_iast (k := oN y) hx hb hK hP (cw_D G _ hI) hS (1 + 67 * 0 + (5 + 4 * (oN x))) 0 (cx_St G (z3 α β γ) (show 0 < 2 by decide) (by omega)) rfl (oIn_x h2) (by omega) (by decide) dX4_setTaste_42 (fun H locs hP hD hS => ?_)
  have hP : va_P G.1 vwCl (cw G (z3 (su α 1 (oN x) (oN y) z) β γ)) H := by rw [← (cu_z0 (a := α) (b := β) (c := γ) (τ' := su α 1 (oN x) (oN y) z) (cu_S1 G (z3 α β γ) (show 0 < 2 by decide) (by omega) (oN y) z))]; exact hP
  clear hD
  refine lv_iload hx hb dX4_setTaste_43 (lv_at hl 0 rfl) ?_
  exact o_iretM hx hb hr hlocks hS dX4_setTaste_45 (hP) (rfl)
set_option maxHeartbeats 4000000 in
set_option maxRecDepth 100000 in
theorem m_X4_street (l : Launch) (G : oG) (hI : wl_I G.2.1 137) (α β γ : oT) (nS : Nat) (nO : Nat) (nH : Nat) (hz : oOK α nS nO nH) (x : Int32) (y : Int32) (h1 : oIn x nS = true) (h2 : oIn y 8 = true) : Met l yX4_street wsX4_street ({ frames := 5, cells := 0, slots := 0, locals := 115 } : Room) (va_Pc [.ref (G.2.1 0), .int x, .int y] (PW G (cw G (z3 α β γ)))) (oQ (some (.int (oSFact α nO nH (oN x) (oN y)))) (fun H9 => va_P G.1 vwCl (cw G (z3 α β γ)) H9) (oA G)) 0 0 (oA G) := by
  refine o_body (cc := cX4_street) (by decide +kernel) rfl (Nat.le_of_ble_eq_true rfl) ?_
  intro p e s m below meth c ls hx hb hml hr hlocks hown hts hP hK hN hl
  have hown : s.vm.findClass RX4 = some m.cls := hown
  have hl : lv_has ls 3 [(0, .ref (G.2.1 0)), (1, .int x), (2, .int y)] := hl
  have hS : va_S (oA G) s.heap s.heap [] := va_S.rf
  obtain ⟨hz1, hz2, hz3, hz4, hz5, hz6, hz7⟩ := id hz
  have n1 := oIn_lt (by omega) h1
  have n2 := oIn_lt (by omega) h2
  refine lv_aload_n hx hb dX4_street_0 rfl (lv_at hl 0 rfl) ?_
  refine lv_iload_n hx hb dX4_street_1 rfl (lv_at hl 1 rfl) ?_
  refine o_cVmv (q0 := 0) (ci := 6) [.int x] [] ⟨hx, hb, hml, hown, hts⟩ (m_X4_checkStreet l G hI α β γ nS nO nH hz x (h1)) (cwV 1 hts gX4_street_X4_checkStreet rfl rfl rfl (by decide +kernel) ⟨Nat.le_of_ble_eq_true rfl, Nat.le_of_ble_eq_true rfl⟩) hK hN hP hS rfl rfl (cx_C G (z3 α β γ)) rfl hl.1 rfl (Nat.le_of_ble_eq_true rfl) dX4_street_2 ⟨Nat.zero_le _, Nat.zero_le _⟩ (fun H locs hP hS => ?_)
  refine lv_iload_n hx hb dX4_street_5 rfl (lv_at hl 2 rfl) ?_
  refine lv_bipush (v := 8) hx hb dX4_street_6 (by decide) ?_
  refine o_cSmv [.int y, .int 8] [] ⟨hx, hb, hml, hown, hts⟩ (m_X4_checkIndex l G hI α β γ y 8 8 ((by decide)) (by omega) (h2)) (va_cwS 2 hts gX4_street_X4_checkIndex rfl rfl rfl (by decide +kernel) ⟨Nat.le_of_ble_eq_true rfl, Nat.le_of_ble_eq_true rfl⟩) hK hN hP hS rfl hl.1 rfl (Nat.le_of_ble_eq_true rfl) dX4_street_8 ⟨Nat.zero_le _, Nat.zero_le _⟩ (fun H locs hP hS => ?_)
  refine lv_aload_n hx hb dX4_street_11 rfl (lv_at hl 0 rfl) ?_
  refine va_get (D := G.1) (ci := 6) (v := .ref (ta G 0 (0))) (C := RX4) (T := TX4) (N := 3) hx hb hts (fun w9 h9 => List.mem_cons_of_mem _ (List.mem_append_left _ (List.mem_append_left _ (List.mem_append_left _ (List.mem_append_left _ (List.mem_append_right _ (h9))))))) hown hK hP (0) (cx_C G (z3 α β γ)) rfl 0 (by decide) (hts (.fieldLink RX4 10 "OrganCensus" "town" "LOrganCensus$Town;") (List.mem_of_getElem? (i := 1) rfl)) (fun _ h9 => h9) rfl dX4_street_12 ?_
  refine lv_iload_n hx hb dX4_street_15 rfl (lv_at hl 1 rfl) ?_
  refine lv_iload_n hx hb dX4_street_16 rfl (lv_at hl 2 rfl) ?_
  have hP : va_P G.1 vwCl (tw G (z3 α β γ) 0 α) H := by rw [tz0]; exact hP
  refine o_cVi (q0 := 1 + 67 * 0 + (0)) (ci := 5) [.int x, .int y] [] ⟨hx, hb, hml, hown, hts⟩ (m_X3_streetFact l G (z3 α β γ) (show 0 < 2 by decide) α nS nO nH hz (oN x) x ((oIn_x h1)) (by omega) (oN y) y ((oIn_x h2)) (by omega)) (cwV 2 hts gX4_street_X3_streetFact rfl rfl rfl (by decide +kernel) ⟨Nat.le_of_ble_eq_true rfl, Nat.le_of_ble_eq_true rfl⟩) hK hN hP rfl rfl (tw_T G (z3 α β γ) (show 0 < 2 by decide) α) rfl hl.1 rfl (Nat.le_of_ble_eq_true rfl) dX4_street_17 ⟨Nat.zero_le _, Nat.zero_le _⟩ ?_
  have hP : va_P G.1 vwCl (cw G (z3 α β γ)) H := by rw [tz0] at hP; exact hP
  exact o_iretM hx hb hr hlocks hS dX4_street_20 (hP) (rfl)
set_option maxHeartbeats 4000000 in
set_option maxRecDepth 100000 in
theorem m_X4_ear (l : Launch) (G : oG) (hI : wl_I G.2.1 137) (α β γ : oT) (nS : Nat) (nO : Nat) (nH : Nat) (hz : oOK α nS nO nH) (x : Int32) (y : Int32) (bb : Bool) (h1 : oIn x nS = true) (h2 : oIn y 6 = true) : Met l yX4_ear wsX4_ear ({ frames := 2, cells := 0, slots := 0, locals := 42 } : Room) (va_Pc [.ref (G.2.1 0), .int x, .int y, .int (bI bb)] (PW G (cw G (z3 α β γ)))) (oQ (some (.int (if bb = true then α 1 (oN x) (oN y) else α 2 (oN x) (oN y)))) (fun H9 => va_P G.1 vwCl (cw G (z3 α β γ)) H9) (oA G)) 0 0 (oA G) := by
  refine o_body (cc := cX4_ear) (by decide +kernel) rfl (Nat.le_of_ble_eq_true rfl) ?_
  intro p e s m below meth c ls hx hb hml hr hlocks hown hts hP hK hN hl
  have hown : s.vm.findClass RX4 = some m.cls := hown
  have hl : lv_has ls 5 [(0, .ref (G.2.1 0)), (1, .int x), (2, .int y), (3, .int (bI bb))] := hl
  have hS : va_S (oA G) s.heap s.heap [] := va_S.rf
  obtain ⟨hz1, hz2, hz3, hz4, hz5, hz6, hz7⟩ := id hz
  have n1 := oIn_lt (by omega) h1
  have n2 := oIn_lt (by omega) h2
  refine lv_aload_n hx hb dX4_ear_0 rfl (lv_at hl 0 rfl) ?_
  refine lv_iload_n hx hb dX4_ear_1 rfl (lv_at hl 1 rfl) ?_
  refine o_cVmv (q0 := 0) (ci := 6) [.int x] [] ⟨hx, hb, hml, hown, hts⟩ (m_X4_checkStreet l G hI α β γ nS nO nH hz x (h1)) (cwV 1 hts gX4_ear_X4_checkStreet rfl rfl rfl (by decide +kernel) ⟨Nat.le_of_ble_eq_true rfl, Nat.le_of_ble_eq_true rfl⟩) hK hN hP hS rfl rfl (cx_C G (z3 α β γ)) rfl hl.1 rfl (Nat.le_of_ble_eq_true rfl) dX4_ear_2 ⟨Nat.zero_le _, Nat.zero_le _⟩ (fun H locs hP hS => ?_)
  refine lv_iload_n hx hb dX4_ear_5 rfl (lv_at hl 2 rfl) ?_
  refine lv_bipush (v := 6) hx hb dX4_ear_6 (by decide) ?_
  refine o_cSmv [.int y, .int 6] [] ⟨hx, hb, hml, hown, hts⟩ (m_X4_checkIndex l G hI α β γ y 6 6 ((by decide)) (by omega) (h2)) (va_cwS 2 hts gX4_ear_X4_checkIndex rfl rfl rfl (by decide +kernel) ⟨Nat.le_of_ble_eq_true rfl, Nat.le_of_ble_eq_true rfl⟩) hK hN hP hS rfl hl.1 rfl (Nat.le_of_ble_eq_true rfl) dX4_ear_8 ⟨Nat.zero_le _, Nat.zero_le _⟩ (fun H locs hP hS => ?_)
  refine lv_aload_n hx hb dX4_ear_11 rfl (lv_at hl 0 rfl) ?_
  refine va_get (D := G.1) (ci := 6) (v := .ref (ta G 0 (0))) (C := RX4) (T := TX4) (N := 3) hx hb hts (fun w9 h9 => List.mem_cons_of_mem _ (List.mem_append_left _ (List.mem_append_left _ (List.mem_append_left _ (List.mem_append_right _ (h9)))))) hown hK hP (0) (cx_C G (z3 α β γ)) rfl 0 (by decide) (hts (.fieldLink RX4 10 "OrganCensus" "town" "LOrganCensus$Town;") (List.mem_of_getElem? (i := 1) rfl)) (fun _ h9 => h9) rfl dX4_ear_12 ?_
  refine va_get (D := G.1) (ci := 5) (v := .ref (ta G 0 (1))) (C := RX3) (T := TX3) (N := 5) hx hb hts (fun w9 h9 => List.mem_cons_of_mem _ (List.mem_append_left _ (List.mem_append_left _ (List.mem_append_right _ (h9))))) hown hK hP (1 + 67 * 0 + (0)) (cx_T G (z3 α β γ) (show 0 < 2 by decide)) rfl 0 (by decide) (hts (.fieldLink RX4 53 "OrganCensus$Town" "streets" "[LOrganCensus$Street;") (List.mem_of_getElem? (i := 2) rfl)) (fun _ h9 => h9) rfl dX4_ear_15 ?_
  refine lv_iload_n hx hb dX4_ear_18 rfl (lv_at hl 1 rfl) ?_
  refine o_aald (k := oN x) (C := RX2) hx hb hK hP (1 + 67 * 0 + (1)) 1 (cx_SA G (z3 α β γ) (show 0 < 2 by decide)) rfl (oIn_x h1) (by omega) (by decide) rfl dX4_ear_19 ?_
  refine lv_astore (lv' := [(4, .ref (ta G 0 (3 + 4 * (oN x)))), (0, .ref (G.2.1 0)), (1, .int x), (2, .int y), (3, .int (bI bb))]) hx hb dX4_ear_20 hl (by decide) rfl (fun ls hl => ?_)
  refine lv_iload_n hx hb dX4_ear_22 rfl (lv_at hl 4 rfl) ?_
  refine lv_if_eq (tgt := 36) hx hb dX4_ear_23 (by decide) (fun c23 => ?_) (fun c23 => ?_)
  · have c23 := bI_eq.mp c23
    refine lv_aload hx hb dX4_ear_36 (lv_at hl 0 rfl) ?_
    refine va_get (D := G.1) (ci := 4) (v := .ref (ta G 0 (6 + 4 * (oN x)))) (C := RX2) (T := TX2) (N := 6) hx hb hts (fun w9 h9 => List.mem_cons_of_mem _ (List.mem_append_left _ (List.mem_append_right _ (h9)))) hown hK hP (1 + 67 * 0 + (3 + 4 * (oN x))) (cx_S G (z3 α β γ) (show 0 < 2 by decide) (by omega)) rfl 2 (by decide) (hts (.fieldLink RX4 70 "OrganCensus$Street" "weariness" "[I") (List.mem_of_getElem? (i := 4) rfl)) (fun _ h9 => h9) rfl dX4_ear_38 ?_
    refine lv_iload_n hx hb dX4_ear_41 rfl (lv_at hl 3 rfl) ?_
    refine o_iald (k := oN y) hx hb hK hP (1 + 67 * 0 + (6 + 4 * (oN x))) 0 (cx_Sw G (z3 α β γ) (show 0 < 2 by decide) (by omega)) rfl (oIn_x h2) (by omega) (by decide) dX4_ear_42 ?_
    exact o_iretM hx hb hr hlocks hS dX4_ear_43 (hP) (by simp [c23]; try rfl)
  · have c23 := bI_ne.mp c23
    refine lv_aload hx hb dX4_ear_26 (lv_at hl 0 rfl) ?_
    refine va_get (D := G.1) (ci := 4) (v := .ref (ta G 0 (5 + 4 * (oN x)))) (C := RX2) (T := TX2) (N := 6) hx hb hts (fun w9 h9 => List.mem_cons_of_mem _ (List.mem_append_left _ (List.mem_append_right _ (h9)))) hown hK hP (1 + 67 * 0 + (3 + 4 * (oN x))) (cx_S G (z3 α β γ) (show 0 < 2 by decide) (by omega)) rfl 1 (by decide) (hts (.fieldLink RX4 63 "OrganCensus$Street" "tastes" "[I") (List.mem_of_getElem? (i := 3) rfl)) (fun _ h9 => h9) rfl dX4_ear_28 ?_
    refine lv_iload_n hx hb dX4_ear_31 rfl (lv_at hl 3 rfl) ?_
    refine o_iald (k := oN y) hx hb hK hP (1 + 67 * 0 + (5 + 4 * (oN x))) 0 (cx_St G (z3 α β γ) (show 0 < 2 by decide) (by omega)) rfl (oIn_x h2) (by omega) (by decide) dX4_ear_32 ?_
    refine lv_goto (tgt := 43) hx hb dX4_ear_33 (by decide) ?_
    exact o_iretM hx hb hr hlocks hS dX4_ear_43 (hP) (by simp [c23]; try rfl)
set_option maxHeartbeats 4000000 in
set_option maxRecDepth 100000 in
theorem m_X4_addOrgan (l : Launch) (G : oG) (hI : wl_I G.2.1 137) (α β γ : oT) (nS : Nat) (nO : Nat) (nH : Nat) (hz : oOK α nS nO nH) (x : Int32) (y : Int32) (z : Int32) (h1 : oIn x nS = true) (h2 : oIn y (oNp α (oN x)) = true) (h3 : oRg z 1 9 = true) (h4 : nO < 8) : Met l yX4_addOrgan wsX4_addOrgan ({ frames := 3, cells := 0, slots := 0, locals := 70 } : Room) (va_Pc [.ref (G.2.1 0), .int x, .int y, .int z] (PW G (cw G (z3 α β γ)))) (oQ (some (.int (nI nO))) (fun H9 => va_P G.1 vwCl (cw G (z3 (su (oPutB (su (oMove α nO x y 0) 13 nO 0 z) nO 1) 18 0 1 (nI (nO + 1))) β γ)) H9) (oA G)) 0 0 (oA G) := by
  refine o_body (cc := cX4_addOrgan) (by decide +kernel) rfl (Nat.le_of_ble_eq_true rfl) ?_
  intro p e s m below meth c ls hx hb hml hr hlocks hown hts hP hK hN hl
  have hown : s.vm.findClass RX4 = some m.cls := hown
  have hl : lv_has ls 4 [(0, .ref (G.2.1 0)), (1, .int x), (2, .int y), (3, .int z)] := hl
  have hS : va_S (oA G) s.heap s.heap [] := va_S.rf
  obtain ⟨hz1, hz2, hz3, hz4, hz5, hz6, hz7⟩ := id hz
  refine lv_aload_n hx hb dX4_addOrgan_0 rfl (lv_at hl 0 rfl) ?_
  refine lv_iload_n hx hb dX4_addOrgan_1 rfl (lv_at hl 1 rfl) ?_
  refine lv_iload_n hx hb dX4_addOrgan_2 rfl (lv_at hl 2 rfl) ?_
  refine o_cVmv (q0 := 0) (ci := 6) [.int x, .int y] [] ⟨hx, hb, hml, hown, hts⟩ (m_X4_checkPitch l G hI α β γ nS nO nH hz x y (h1) (h2)) (cwV 2 hts gX4_addOrgan_X4_checkPitch rfl rfl rfl (by decide +kernel) ⟨Nat.le_of_ble_eq_true rfl, Nat.le_of_ble_eq_true rfl⟩) hK hN hP hS rfl rfl (cx_C G (z3 α β γ)) rfl hl.1 rfl (Nat.le_of_ble_eq_true rfl) dX4_addOrgan_3 ⟨Nat.zero_le _, Nat.zero_le _⟩ (fun H locs hP hS => ?_)
  refine lv_iload_n hx hb dX4_addOrgan_6 rfl (lv_at hl 3 rfl) ?_
  refine lv_iconst (v := 1) hx hb dX4_addOrgan_7 (by decide) ?_
  refine lv_bipush (v := 9) hx hb dX4_addOrgan_8 (by decide) ?_
  refine o_cSmv [.int z, .int 1, .int 9] [] ⟨hx, hb, hml, hown, hts⟩ (m_X4_checkRange l G hI α β γ z 1 9 (h3)) (va_cwS 3 hts gX4_addOrgan_X4_checkRange rfl rfl rfl (by decide +kernel) ⟨Nat.le_of_ble_eq_true rfl, Nat.le_of_ble_eq_true rfl⟩) hK hN hP hS rfl hl.1 rfl (Nat.le_of_ble_eq_true rfl) dX4_addOrgan_10 ⟨Nat.zero_le _, Nat.zero_le _⟩ (fun H locs hP hS => ?_)
  refine lv_aload_n hx hb dX4_addOrgan_13 rfl (lv_at hl 0 rfl) ?_
  refine va_get (D := G.1) (ci := 6) (v := .ref (ta G 0 (0))) (C := RX4) (T := TX4) (N := 3) hx hb hts (fun w9 h9 => List.mem_cons_of_mem _ (List.mem_append_left _ (List.mem_append_left _ (List.mem_append_left _ (List.mem_append_left _ (List.mem_append_left _ (List.mem_append_left _ (List.mem_append_right _ (h9))))))))) hown hK hP (0) (cx_C G (z3 α β γ)) rfl 0 (by decide) (hts (.fieldLink RX4 10 "OrganCensus" "town" "LOrganCensus$Town;") (List.mem_of_getElem? (i := 3) rfl)) (fun _ h9 => h9) rfl dX4_addOrgan_14 ?_
  refine va_get (D := G.1) (ci := 5) (v := .int (α 18 0 1)) (C := RX3) (T := TX3) (N := 5) hx hb hts (fun w9 h9 => List.mem_cons_of_mem _ (List.mem_append_left _ (List.mem_append_left _ (List.mem_append_left _ (List.mem_append_left _ (List.mem_append_left _ (List.mem_append_right _ (h9)))))))) hown hK hP (1 + 67 * 0 + (0)) (cx_T G (z3 α β γ) (show 0 < 2 by decide)) rfl 3 (by decide) (hts (.fieldLink RX4 76 "OrganCensus$Town" "organCount" "I") (List.mem_of_getElem? (i := 4) rfl)) (fun _ h9 => h9) rfl dX4_addOrgan_17 ?_
  refine lv_bipush (v := 8) hx hb dX4_addOrgan_20 (by decide) ?_
  refine lv_icmp_lt (tgt := 35) hx hb dX4_addOrgan_22 (by decide) (fun c22 => ?_) (fun c22 => ?_)
  · have n22 := (o_nlt (a := nO) (b := 8) hz.2.2.1 (by decide) (by omega) (by omega)).mp c22
    refine lv_aload_n hx hb dX4_addOrgan_35 rfl (lv_at hl 0 rfl) ?_
    refine va_get (D := G.1) (ci := 6) (v := .ref (ta G 0 (0))) (C := RX4) (T := TX4) (N := 3) hx hb hts (fun w9 h9 => List.mem_cons_of_mem _ (List.mem_append_left _ (List.mem_append_left _ (List.mem_append_left _ (List.mem_append_left _ (List.mem_append_left _ (List.mem_append_left _ (List.mem_append_right _ (h9))))))))) hown hK hP (0) (cx_C G (z3 α β γ)) rfl 0 (by decide) (hts (.fieldLink RX4 10 "OrganCensus" "town" "LOrganCensus$Town;") (List.mem_of_getElem? (i := 3) rfl)) (fun _ h9 => h9) rfl dX4_addOrgan_36 ?_
    refine lv_iload_n hx hb dX4_addOrgan_39 rfl (lv_at hl 1 rfl) ?_
    refine lv_iload_n hx hb dX4_addOrgan_40 rfl (lv_at hl 2 rfl) ?_
    refine lv_iload_n hx hb dX4_addOrgan_41 rfl (lv_at hl 3 rfl) ?_
    have hP : va_P G.1 vwCl (tw G (z3 α β γ) 0 α) H := by rw [tz0]; exact hP
    refine o_cVmi (q0 := 1 + 67 * 0 + (0)) (ci := 5) [.int x, .int y, .int z] [] ⟨hx, hb, hml, hown, hts⟩ (m_X3_newOrgan l G (z3 α β γ) (show 0 < 2 by decide) hI α nS nO nH hz (by omega) x y z) (cwV 3 hts gX4_addOrgan_X3_newOrgan rfl rfl rfl (by decide +kernel) ⟨Nat.le_of_ble_eq_true rfl, Nat.le_of_ble_eq_true rfl⟩) hK hN hP hS rfl rfl (tw_T G (z3 α β γ) (show 0 < 2 by decide) α) rfl hl.1 rfl (Nat.le_of_ble_eq_true rfl) dX4_addOrgan_42 ⟨Nat.zero_le _, Nat.zero_le _⟩ (fun H locs hP hS => ?_)
    have hP : va_P G.1 vwCl (cw G (z3 (su (oPutB (su (oMove α nO x y 0) 13 nO 0 z) nO 1) 18 0 1 (nI (nO + 1))) β γ)) H := by rw [tz0] at hP; exact hP
    exact o_iretM hx hb hr hlocks hS dX4_addOrgan_45 (hP) (rfl)
  · have n22 := (mt (o_nlt (a := nO) (b := 8) hz.2.2.1 (by decide) (by omega) (by omega)).mpr) c22; omega
set_option maxHeartbeats 4000000 in
set_option maxRecDepth 100000 in
theorem m_X4_isBarrel (l : Launch) (G : oG) (wd : va_W) (x : Int32) : Met l yX4_isBarrel wsX4_isBarrel ({ frames := 0, cells := 0, slots := 0, locals := 0 } : Room) (va_Pc [.int x] (PW G wd)) (oR (some (.int (bI (oBar x))))) 0 0 (fun _ => False) := by
  refine o_body (cc := cX4_isBarrel) (by decide +kernel) rfl (Nat.le_of_ble_eq_true rfl) ?_
  intro p e s m below meth c ls hx hb hml hr hlocks hown hts hP hK hN hl
  have hown : s.vm.findClass RX4 = some m.cls := hown
  have hl : lv_has ls 4 [(0, .int x)] := hl
  refine lv_iconst (v := 0) hx hb dX4_isBarrel_0 (by decide) ?_
  refine lv_istore_n (lv' := [(1, .int 0), (0, .int x)]) hx hb dX4_isBarrel_1 rfl hl (by decide) rfl (fun ls hl => ?_)
  refine lv_iload_n hx hb dX4_isBarrel_2 rfl (lv_at hl 1 rfl) ?_
  refine lv_istore_n (lv' := [(2, .int x), (1, .int 0), (0, .int x)]) hx hb dX4_isBarrel_3 rfl hl (by decide) rfl (fun ls hl => ?_)
  have lp4 : ∀ (d4 k : Nat), k + d4 = 40 → ∀ x4_1 : Int32, x4_1 = (nI k) → ∀ x4_2 : Int32, x4_2 = (oBr x k) → (oBk x k) → ∀ ls : Array Slot, lv_has ls 4 [(0, .int x), (1, .int x4_1), (2, .int x4_2)] → W p l e ({ frames := 0, cells := 0, slots := 0, locals := 0 } : Room) s m ([.int x] : List Value).toArray below meth c s.heap [] 0 0 (MQ below (oR (some (.int (bI (oBar x))))) ([.int x] : List Value).toArray s 0 0 (fun _ => False)) (F0 m 4 ls []) := by
    intro d4
    induction d4 with
    | zero =>
      intro k hk4 x4_1 e4_1 x4_2 e4_2 hq ls hl
      subst e4_1
      subst e4_2
      have hk4 : k = 40 := by omega
      subst hk4
      have hF : False := oBk_end hq
      refine lv_iload_n hx hb dX4_isBarrel_4 rfl (lv_at hl 2 rfl) ?_
      refine lv_if_le (tgt := 37) hx hb dX4_isBarrel_5 (by decide) (fun c5 => ?_) (fun c5 => ?_)
      · exact hF.elim
      · exact hF.elim
    | succ d4 ih4 =>
      intro k hk4 x4_1 e4_1 x4_2 e4_2 hq ls hl
      subst e4_1
      subst e4_2
      have hj4 : k < 40 := by omega
      refine lv_iload_n hx hb dX4_isBarrel_4 rfl (lv_at hl 2 rfl) ?_
      refine lv_if_le (tgt := 37) hx hb dX4_isBarrel_5 (by decide) (fun c5 => ?_) (fun c5 => ?_)
      · refine lv_iload_n hx hb dX4_isBarrel_37 rfl (lv_at hl 1 rfl) ?_
        refine lv_iconst (v := 1) hx hb dX4_isBarrel_38 (by decide) ?_
        refine lv_icmp_lt (tgt := 52) hx hb dX4_isBarrel_39 (by decide) (fun c39 => ?_) (fun c39 => ?_)
        · have n39 := (o_nlt (a := k) (b := 1) rfl (by decide) (by omega) (by omega)).mp c39
          refine lv_iconst (v := 0) hx hb dX4_isBarrel_52 (by decide) ?_
          exact o_zretR hx hb hr hlocks dX4_isBarrel_53 (by exact bI_01 _) (by first | exact oBk_f hq c5 c15 | exact oBk_g hq c5 c21 | exact oBk_a hq c5 c39 c45 | exact oBk_b hq c5 c39 | exact oBk_c hq c5 c45)
        · have n39 := (mt (o_nlt (a := k) (b := 1) rfl (by decide) (by omega) (by omega)).mpr) c39
          refine lv_iload_n hx hb dX4_isBarrel_42 rfl (lv_at hl 1 rfl) ?_
          refine lv_bipush (v := 8) hx hb dX4_isBarrel_43 (by decide) ?_
          refine lv_icmp_gt (tgt := 52) hx hb dX4_isBarrel_45 (by decide) (fun c45 => ?_) (fun c45 => ?_)
          · have n45 := (o_nlt (a := 8) (b := k) (by decide) rfl (by omega) (by omega)).mp c45
            refine lv_iconst (v := 0) hx hb dX4_isBarrel_52 (by decide) ?_
            exact o_zretR hx hb hr hlocks dX4_isBarrel_53 (by exact bI_01 _) (by first | exact oBk_f hq c5 c15 | exact oBk_g hq c5 c21 | exact oBk_a hq c5 c39 c45 | exact oBk_b hq c5 c39 | exact oBk_c hq c5 c45)
          · have n45 := (mt (o_nlt (a := 8) (b := k) (by decide) rfl (by omega) (by omega)).mpr) c45
            refine lv_iconst (v := 1) hx hb dX4_isBarrel_48 (by decide) ?_
            refine lv_goto (tgt := 53) hx hb dX4_isBarrel_49 (by decide) ?_
            exact o_zretR hx hb hr hlocks dX4_isBarrel_53 (by exact bI_01 _) (by first | exact oBk_f hq c5 c15 | exact oBk_g hq c5 c21 | exact oBk_a hq c5 c39 c45 | exact oBk_b hq c5 c39 | exact oBk_c hq c5 c45)
      · refine lv_iload_n hx hb dX4_isBarrel_8 rfl (lv_at hl 2 rfl) ?_
        refine lv_bipush (v := 10) hx hb dX4_isBarrel_9 (by decide) ?_
        refine o_irem hx hb dX4_isBarrel_11 (by decide) ?_
        refine lv_istore_n (lv' := [(3, .int (o_rem (oBr x k) 10)), (0, .int x), (1, .int (nI k)), (2, .int (oBr x k))]) hx hb dX4_isBarrel_12 rfl hl (by decide) rfl (fun ls hl => ?_)
        refine lv_iload_n hx hb dX4_isBarrel_13 rfl (lv_at hl 0 rfl) ?_
        refine lv_iconst (v := 1) hx hb dX4_isBarrel_14 (by decide) ?_
        refine lv_icmp_lt (tgt := 24) hx hb dX4_isBarrel_15 (by decide) (fun c15 => ?_) (fun c15 => ?_)
        · refine lv_iconst (v := 0) hx hb dX4_isBarrel_24 (by decide) ?_
          exact o_zretR hx hb hr hlocks dX4_isBarrel_25 (by exact bI_01 _) (by first | exact oBk_f hq c5 c15 | exact oBk_g hq c5 c21 | exact oBk_a hq c5 c39 c45 | exact oBk_b hq c5 c39 | exact oBk_c hq c5 c45)
        · refine lv_iload_n hx hb dX4_isBarrel_18 rfl (lv_at hl 0 rfl) ?_
          refine lv_bipush (v := 6) hx hb dX4_isBarrel_19 (by decide) ?_
          refine lv_icmp_le (tgt := 26) hx hb dX4_isBarrel_21 (by decide) (fun c21 => ?_) (fun c21 => ?_)
          · refine lv_iinc (v := nI (k + 1)) (lv' := [(1, .int (nI (k + 1))), (3, .int (o_rem (oBr x k) 10)), (0, .int x), (2, .int (oBr x k))]) hx hb dX4_isBarrel_26 hl (k := 2) rfl (nI_1 k) (by decide) rfl (fun ls hl => ?_)
            refine lv_iload_n hx hb dX4_isBarrel_29 rfl (lv_at hl 3 rfl) ?_
            refine lv_bipush (v := 10) hx hb dX4_isBarrel_30 (by decide) ?_
            refine lv_idiv hx hb dX4_isBarrel_32 (by decide) ?_
            refine lv_istore_n (lv' := [(2, .int ((oBr x k) / 10)), (1, .int (nI (k + 1))), (3, .int (o_rem (oBr x k) 10)), (0, .int x)]) hx hb dX4_isBarrel_33 rfl hl (by decide) rfl (fun ls hl => ?_)
            refine lv_goto (tgt := 4) hx hb dX4_isBarrel_34 (by decide) ?_
            exact ih4 (k + 1) (by omega) _ (rfl) _ (rfl) (oBk_s hq c5 c15 c21) ls (lv_sub hl [3, 1, 0] rfl)
          · refine lv_iconst (v := 0) hx hb dX4_isBarrel_24 (by decide) ?_
            exact o_zretR hx hb hr hlocks dX4_isBarrel_25 (by exact bI_01 _) (by first | exact oBk_f hq c5 c15 | exact oBk_g hq c5 c21 | exact oBk_a hq c5 c39 c45 | exact oBk_b hq c5 c39 | exact oBk_c hq c5 c45)
  exact lp4 (40) 0 (by omega) _ (rfl) _ (rfl) (fun j hj => absurd hj (Nat.not_lt_zero j)) ls (lv_sub hl [2, 1, 0] rfl)
set_option maxHeartbeats 4000000 in
set_option maxRecDepth 100000 in
theorem m_X4_setBarrel (l : Launch) (G : oG) (hI : wl_I G.2.1 137) (α β γ : oT) (nS : Nat) (nO : Nat) (nH : Nat) (hz : oOK α nS nO nH) (x : Int32) (y : Int32) (h1 : oIn x nO = true) (h2 : oBar y = true) : Met l yX4_setBarrel wsX4_setBarrel ({ frames := 2, cells := 0, slots := 0, locals := 46 } : Room) (va_Pc [.ref (G.2.1 0), .int x, .int y] (PW G (cw G (z3 α β γ)))) (oQ (some (.int (α 15 (oN x) 0))) (fun H9 => va_P G.1 vwCl (cw G (z3 (oPutB α (oN x) (oN y)) β γ)) H9) (oA G)) 0 0 (oA G) := by
  refine o_body (cc := cX4_setBarrel) (by decide +kernel) rfl (Nat.le_of_ble_eq_true rfl) ?_
  intro p e s m below meth c ls hx hb hml hr hlocks hown hts hP hK hN hl
  have hown : s.vm.findClass RX4 = some m.cls := hown
  have hl : lv_has ls 4 [(0, .ref (G.2.1 0)), (1, .int x), (2, .int y)] := hl
  have hS : va_S (oA G) s.heap s.heap [] := va_S.rf
  obtain ⟨hz1, hz2, hz3, hz4, hz5, hz6, hz7⟩ := id hz
  have n1 := oIn_lt (by omega) h1
  have hv := oBar_iff.mp h2
  refine lv_aload_n hx hb dX4_setBarrel_0 rfl (lv_at hl 0 rfl) ?_
  refine lv_iload_n hx hb dX4_setBarrel_1 rfl (lv_at hl 1 rfl) ?_
  refine o_cVmv (q0 := 0) (ci := 6) [.int x] [] ⟨hx, hb, hml, hown, hts⟩ (m_X4_checkOrgan l G hI α β γ nS nO nH hz x (h1)) (cwV 1 hts gX4_setBarrel_X4_checkOrgan rfl rfl rfl (by decide +kernel) ⟨Nat.le_of_ble_eq_true rfl, Nat.le_of_ble_eq_true rfl⟩) hK hN hP hS rfl rfl (cx_C G (z3 α β γ)) rfl hl.1 rfl (Nat.le_of_ble_eq_true rfl) dX4_setBarrel_2 ⟨Nat.zero_le _, Nat.zero_le _⟩ (fun H locs hP hS => ?_)
  refine lv_iload_n hx hb dX4_setBarrel_5 rfl (lv_at hl 2 rfl) ?_
  refine o_cSi [.int y] [] ⟨hx, hb, hml, hown, hts⟩ (m_X4_isBarrel l G (cw G (z3 α β γ)) y) (va_cwS 1 hts gX4_setBarrel_X4_isBarrel rfl rfl rfl (by decide +kernel) ⟨Nat.le_of_ble_eq_true rfl, Nat.le_of_ble_eq_true rfl⟩) hK hN hP rfl hl.1 rfl (Nat.le_of_ble_eq_true rfl) dX4_setBarrel_6 ⟨Nat.zero_le _, Nat.zero_le _⟩ ?_
  refine lv_if_ne (tgt := 22) hx hb dX4_setBarrel_9 (by decide) (fun c9 => ?_) (fun c9 => ?_)
  · have c9 := bI_ne.mp c9
    refine lv_aload_n hx hb dX4_setBarrel_22 rfl (lv_at hl 0 rfl) ?_
    refine va_get (D := G.1) (ci := 6) (v := .ref (ta G 0 (0))) (C := RX4) (T := TX4) (N := 3) hx hb hts (fun w9 h9 => List.mem_cons_of_mem _ (List.mem_append_left _ (List.mem_append_left _ (List.mem_append_left _ (List.mem_append_left _ (List.mem_append_right _ (h9))))))) hown hK hP (0) (cx_C G (z3 α β γ)) rfl 0 (by decide) (hts (.fieldLink RX4 10 "OrganCensus" "town" "LOrganCensus$Town;") (List.mem_of_getElem? (i := 3) rfl)) (fun _ h9 => h9) rfl dX4_setBarrel_23 ?_
    refine va_get (D := G.1) (ci := 5) (v := .ref (ta G 0 (2))) (C := RX3) (T := TX3) (N := 5) hx hb hts (fun w9 h9 => List.mem_cons_of_mem _ (List.mem_append_left _ (List.mem_append_left _ (List.mem_append_left _ (List.mem_append_right _ (h9)))))) hown hK hP (1 + 67 * 0 + (0)) (cx_T G (z3 α β γ) (show 0 < 2 by decide)) rfl 1 (by decide) (hts (.fieldLink RX4 97 "OrganCensus$Town" "organs" "[LOrganCensus$Organ;") (List.mem_of_getElem? (i := 4) rfl)) (fun _ h9 => h9) rfl dX4_setBarrel_26 ?_
    refine lv_iload_n hx hb dX4_setBarrel_29 rfl (lv_at hl 1 rfl) ?_
    refine o_aald (k := oN x) (C := RX0) hx hb hK hP (1 + 67 * 0 + (2)) 2 (cx_OA G (z3 α β γ) (show 0 < 2 by decide)) rfl (oIn_x h1) (by omega) (by decide) rfl dX4_setBarrel_30 ?_
    refine va_get (D := G.1) (ci := 2) (v := .int (α 15 (oN x) 0)) (C := RX0) (T := TX0) (N := 12) hx hb hts (fun w9 h9 => List.mem_cons_of_mem _ (List.mem_append_left _ (List.mem_append_left _ (List.mem_append_right _ (h9))))) hown hK hP (1 + 67 * 0 + (27 + 5 * (oN x))) (cx_O G (z3 α β γ) (show 0 < 2 by decide) (by omega)) rfl 9 (by decide) (hts (.fieldLink RX4 101 "OrganCensus$Organ" "barrel" "I") (List.mem_of_getElem? (i := 5) rfl)) (fun _ h9 => h9) rfl dX4_setBarrel_31 ?_
    refine lv_istore_n (lv' := [(3, .int (α 15 (oN x) 0)), (0, .ref (G.2.1 0)), (1, .int x), (2, .int y)]) hx hb dX4_setBarrel_34 rfl hl (by decide) rfl (fun ls hl => ?_)
    refine lv_aload_n hx hb dX4_setBarrel_35 rfl (lv_at hl 1 rfl) ?_
    refine va_get (D := G.1) (ci := 6) (v := .ref (ta G 0 (0))) (C := RX4) (T := TX4) (N := 3) hx hb hts (fun w9 h9 => List.mem_cons_of_mem _ (List.mem_append_left _ (List.mem_append_left _ (List.mem_append_left _ (List.mem_append_left _ (List.mem_append_right _ (h9))))))) hown hK hP (0) (cx_C G (z3 α β γ)) rfl 0 (by decide) (hts (.fieldLink RX4 10 "OrganCensus" "town" "LOrganCensus$Town;") (List.mem_of_getElem? (i := 3) rfl)) (fun _ h9 => h9) rfl dX4_setBarrel_36 ?_
    refine va_get (D := G.1) (ci := 5) (v := .ref (ta G 0 (2))) (C := RX3) (T := TX3) (N := 5) hx hb hts (fun w9 h9 => List.mem_cons_of_mem _ (List.mem_append_left _ (List.mem_append_left _ (List.mem_append_left _ (List.mem_append_right _ (h9)))))) hown hK hP (1 + 67 * 0 + (0)) (cx_T G (z3 α β γ) (show 0 < 2 by decide)) rfl 1 (by decide) (hts (.fieldLink RX4 97 "OrganCensus$Town" "organs" "[LOrganCensus$Organ;") (List.mem_of_getElem? (i := 4) rfl)) (fun _ h9 => h9) rfl dX4_setBarrel_39 ?_
    refine lv_iload_n hx hb dX4_setBarrel_42 rfl (lv_at hl 2 rfl) ?_
    refine o_aald (k := oN x) (C := RX0) hx hb hK hP (1 + 67 * 0 + (2)) 2 (cx_OA G (z3 α β γ) (show 0 < 2 by decide)) rfl (oIn_x h1) (by omega) (by decide) rfl dX4_setBarrel_43 ?_
    refine lv_iload_n hx hb dX4_setBarrel_44 rfl (lv_at hl 3 rfl) ?_
    have hP : va_P G.1 vwCl (tw G (z3 α β γ) 0 α) H := by rw [tz0]; exact hP
    refine o_cVmv (q0 := 1 + 67 * 0 + (27 + 5 * (oN x))) (ci := 2) [.int y] [] ⟨hx, hb, hml, hown, hts⟩ (m_X0_putBarrel l G (z3 α β γ) (show 0 < 2 by decide) hI α (oN x) (by omega) (oN y) y ((oBar_x h2)) (by assumption)) (cwV 1 hts gX4_setBarrel_X0_putBarrel rfl rfl rfl (by decide +kernel) ⟨Nat.le_of_ble_eq_true rfl, Nat.le_of_ble_eq_true rfl⟩) hK hN hP hS rfl rfl (tw_O G (z3 α β γ) (show 0 < 2 by decide) α (by omega)) rfl hl.1 rfl (Nat.le_of_ble_eq_true rfl) dX4_setBarrel_45 ⟨Nat.zero_le _, Nat.zero_le _⟩ (fun H locs hP hS => ?_)
    have hP : va_P G.1 vwCl (cw G (z3 (oPutB α (oN x) (oN y)) β γ)) H := by rw [tz0] at hP; exact hP
    refine lv_iload_n hx hb dX4_setBarrel_48 rfl (lv_at hl 0 rfl) ?_
    exact o_iretM hx hb hr hlocks hS dX4_setBarrel_49 (hP) (rfl)
  · have c9 := bI_eq.mp c9; exact absurd (h2.symm.trans c9) (by decide)
set_option maxHeartbeats 4000000 in
set_option maxRecDepth 100000 in
theorem m_X4_send (l : Launch) (G : oG) (hI : wl_I G.2.1 137) (α β γ : oT) (nS : Nat) (nO : Nat) (nH : Nat) (hz : oOK α nS nO nH) (x : Int32) (y : Int32) (z : Int32) (h1 : oIn x nO = true) (h2 : oIn y nS = true) (h3 : oIn z (oNp α (oN y)) = true) (h4 : α 9 (oN x) (oN y) ≤ 0) : Met l yX4_send wsX4_send ({ frames := 3, cells := 0, slots := 0, locals := 64 } : Room) (va_Pc [.ref (G.2.1 0), .int x, .int y, .int z] (PW G (cw G (z3 α β γ)))) (oQ (some (.int (oTo α (oN x) y z))) (fun H9 => va_P G.1 vwCl (cw G (z3 (oMove α (oN x) y z (oTo α (oN x) y z)) β γ)) H9) (oA G)) 0 0 (oA G) := by
  refine o_body (cc := cX4_send) (by decide +kernel) rfl (Nat.le_of_ble_eq_true rfl) ?_
  intro p e s m below meth c ls hx hb hml hr hlocks hown hts hP hK hN hl
  have hown : s.vm.findClass RX4 = some m.cls := hown
  have hl : lv_has ls 6 [(0, .ref (G.2.1 0)), (1, .int x), (2, .int y), (3, .int z)] := hl
  have hS : va_S (oA G) s.heap s.heap [] := va_S.rf
  obtain ⟨hz1, hz2, hz3, hz4, hz5, hz6, hz7⟩ := id hz
  have n1 := oIn_lt (by omega) h1
  have n2 := oIn_lt (by omega) h2
  refine lv_aload_n hx hb dX4_send_0 rfl (lv_at hl 0 rfl) ?_
  refine lv_iload_n hx hb dX4_send_1 rfl (lv_at hl 1 rfl) ?_
  refine o_cVmv (q0 := 0) (ci := 6) [.int x] [] ⟨hx, hb, hml, hown, hts⟩ (m_X4_checkOrgan l G hI α β γ nS nO nH hz x (h1)) (cwV 1 hts gX4_send_X4_checkOrgan rfl rfl rfl (by decide +kernel) ⟨Nat.le_of_ble_eq_true rfl, Nat.le_of_ble_eq_true rfl⟩) hK hN hP hS rfl rfl (cx_C G (z3 α β γ)) rfl hl.1 rfl (Nat.le_of_ble_eq_true rfl) dX4_send_2 ⟨Nat.zero_le _, Nat.zero_le _⟩ (fun H locs hP hS => ?_)
  refine lv_aload_n hx hb dX4_send_5 rfl (lv_at hl 0 rfl) ?_
  refine lv_iload_n hx hb dX4_send_6 rfl (lv_at hl 2 rfl) ?_
  refine lv_iload_n hx hb dX4_send_7 rfl (lv_at hl 3 rfl) ?_
  refine o_cVmv (q0 := 0) (ci := 6) [.int y, .int z] [] ⟨hx, hb, hml, hown, hts⟩ (m_X4_checkPitch l G hI α β γ nS nO nH hz y z (h2) (h3)) (cwV 2 hts gX4_send_X4_checkPitch rfl rfl rfl (by decide +kernel) ⟨Nat.le_of_ble_eq_true rfl, Nat.le_of_ble_eq_true rfl⟩) hK hN hP hS rfl rfl (cx_C G (z3 α β γ)) rfl hl.1 rfl (Nat.le_of_ble_eq_true rfl) dX4_send_8 ⟨Nat.zero_le _, Nat.zero_le _⟩ (fun H locs hP hS => ?_)
  refine lv_aload_n hx hb dX4_send_11 rfl (lv_at hl 0 rfl) ?_
  refine va_get (D := G.1) (ci := 6) (v := .ref (ta G 0 (0))) (C := RX4) (T := TX4) (N := 3) hx hb hts (fun w9 h9 => List.mem_cons_of_mem _ (List.mem_append_left _ (List.mem_append_left _ (List.mem_append_left _ (List.mem_append_left _ (List.mem_append_left _ (List.mem_append_right _ (h9)))))))) hown hK hP (0) (cx_C G (z3 α β γ)) rfl 0 (by decide) (hts (.fieldLink RX4 10 "OrganCensus" "town" "LOrganCensus$Town;") (List.mem_of_getElem? (i := 3) rfl)) (fun _ h9 => h9) rfl dX4_send_12 ?_
  refine va_get (D := G.1) (ci := 5) (v := .ref (ta G 0 (2))) (C := RX3) (T := TX3) (N := 5) hx hb hts (fun w9 h9 => List.mem_cons_of_mem _ (List.mem_append_left _ (List.mem_append_left _ (List.mem_append_left _ (List.mem_append_left _ (List.mem_append_right _ (h9))))))) hown hK hP (1 + 67 * 0 + (0)) (cx_T G (z3 α β γ) (show 0 < 2 by decide)) rfl 1 (by decide) (hts (.fieldLink RX4 97 "OrganCensus$Town" "organs" "[LOrganCensus$Organ;") (List.mem_of_getElem? (i := 4) rfl)) (fun _ h9 => h9) rfl dX4_send_15 ?_
  refine lv_iload_n hx hb dX4_send_18 rfl (lv_at hl 1 rfl) ?_
  refine o_aald (k := oN x) (C := RX0) hx hb hK hP (1 + 67 * 0 + (2)) 2 (cx_OA G (z3 α β γ) (show 0 < 2 by decide)) rfl (oIn_x h1) (by omega) (by decide) rfl dX4_send_19 ?_
  refine lv_astore (lv' := [(4, .ref (ta G 0 (27 + 5 * (oN x)))), (0, .ref (G.2.1 0)), (1, .int x), (2, .int y), (3, .int z)]) hx hb dX4_send_20 hl (by decide) rfl (fun ls hl => ?_)
  refine lv_aload hx hb dX4_send_22 (lv_at hl 0 rfl) ?_
  refine va_get (D := G.1) (ci := 2) (v := .ref (ta G 0 (31 + 5 * (oN x)))) (C := RX0) (T := TX0) (N := 12) hx hb hts (fun w9 h9 => List.mem_cons_of_mem _ (List.mem_append_left _ (List.mem_append_left _ (List.mem_append_left _ (List.mem_append_right _ (h9)))))) hown hK hP (1 + 67 * 0 + (27 + 5 * (oN x))) (cx_O G (z3 α β γ) (show 0 < 2 by decide) (by omega)) rfl 3 (by decide) (hts (.fieldLink RX4 109 "OrganCensus$Organ" "banishedHours" "[I") (List.mem_of_getElem? (i := 5) rfl)) (fun _ h9 => h9) rfl dX4_send_24 ?_
  refine lv_iload_n hx hb dX4_send_27 rfl (lv_at hl 3 rfl) ?_
  refine o_iald (k := oN y) hx hb hK hP (1 + 67 * 0 + (31 + 5 * (oN x))) 0 (cx_Ob G (z3 α β γ) (show 0 < 2 by decide) (by omega)) rfl (oIn_x h2) (by omega) (by decide) dX4_send_28 ?_
  refine lv_if_le (tgt := 42) hx hb dX4_send_29 (by decide) (fun c29 => ?_) (fun c29 => ?_)
  · refine lv_aload hx hb dX4_send_42 (lv_at hl 0 rfl) ?_
    refine lv_iload_n hx hb dX4_send_44 rfl (lv_at hl 3 rfl) ?_
    refine lv_iload_n hx hb dX4_send_45 rfl (lv_at hl 4 rfl) ?_
    have hP : va_P G.1 vwCl (tw G (z3 α β γ) 0 α) H := by rw [tz0]; exact hP
    refine o_cVi (q0 := 1 + 67 * 0 + (27 + 5 * (oN x))) (ci := 2) [.int y, .int z] [] ⟨hx, hb, hml, hown, hts⟩ (m_X0_hoursTo l G (z3 α β γ) (show 0 < 2 by decide) α (oN x) (by omega) y z) (cwV 2 hts gX4_send_X0_hoursTo rfl rfl rfl (by decide +kernel) ⟨Nat.le_of_ble_eq_true rfl, Nat.le_of_ble_eq_true rfl⟩) hK hN hP rfl rfl (tw_O G (z3 α β γ) (show 0 < 2 by decide) α (by omega)) rfl hl.1 rfl (Nat.le_of_ble_eq_true rfl) dX4_send_46 ⟨Nat.zero_le _, Nat.zero_le _⟩ ?_
    have hP : va_P G.1 vwCl (cw G (z3 α β γ)) H := by rw [tz0] at hP; exact hP
    refine lv_istore (lv' := [(5, .int (oTo α (oN x) y z)), (4, .ref (ta G 0 (27 + 5 * (oN x)))), (0, .ref (G.2.1 0)), (1, .int x), (2, .int y), (3, .int z)]) hx hb dX4_send_49 hl (by decide) rfl (fun ls hl => ?_)
    refine lv_aload hx hb dX4_send_51 (lv_at hl 1 rfl) ?_
    refine lv_iload_n hx hb dX4_send_53 rfl (lv_at hl 4 rfl) ?_
    refine lv_iload_n hx hb dX4_send_54 rfl (lv_at hl 5 rfl) ?_
    refine lv_iload hx hb dX4_send_55 (lv_at hl 0 rfl) ?_
    have hP : va_P G.1 vwCl (tw G (z3 α β γ) 0 α) H := by rw [tz0]; exact hP
    refine o_cVmv (q0 := 1 + 67 * 0 + (27 + 5 * (oN x))) (ci := 2) [.int y, .int z, .int (oTo α (oN x) y z)] [] ⟨hx, hb, hml, hown, hts⟩ (m_X0_moveTo l G (z3 α β γ) (show 0 < 2 by decide) hI α (oN x) (by omega) y z (oTo α (oN x) y z)) (cwV 3 hts gX4_send_X0_moveTo rfl rfl rfl (by decide +kernel) ⟨Nat.le_of_ble_eq_true rfl, Nat.le_of_ble_eq_true rfl⟩) hK hN hP hS rfl rfl (tw_O G (z3 α β γ) (show 0 < 2 by decide) α (by omega)) rfl hl.1 rfl (Nat.le_of_ble_eq_true rfl) dX4_send_57 ⟨Nat.zero_le _, Nat.zero_le _⟩ (fun H locs hP hS => ?_)
    have hP : va_P G.1 vwCl (cw G (z3 (oMove α (oN x) y z (oTo α (oN x) y z)) β γ)) H := by rw [tz0] at hP; exact hP
    refine lv_iload hx hb dX4_send_60 (lv_at hl 0 rfl) ?_
    exact o_iretM hx hb hr hlocks hS dX4_send_62 (hP) (rfl)
  · exact absurd h4 c29
set_option maxHeartbeats 4000000 in
set_option maxRecDepth 100000 in
theorem m_X4_organ (l : Launch) (G : oG) (hI : wl_I G.2.1 137) (α β γ : oT) (nS : Nat) (nO : Nat) (nH : Nat) (hz : oOK α nS nO nH) (x : Int32) (y : Int32) (h1 : oIn x nO = true) (h2 : oIn y 11 = true) : Met l yX4_organ wsX4_organ ({ frames := 3, cells := 0, slots := 0, locals := 62 } : Room) (va_Pc [.ref (G.2.1 0), .int x, .int y] (PW G (cw G (z3 α β γ)))) (oQ (some (.int (oFact α (oN x) (oN y)))) (fun H9 => va_P G.1 vwCl (cw G (z3 α β γ)) H9) (oA G)) 0 0 (oA G) := by
  refine o_body (cc := cX4_organ) (by decide +kernel) rfl (Nat.le_of_ble_eq_true rfl) ?_
  intro p e s m below meth c ls hx hb hml hr hlocks hown hts hP hK hN hl
  have hown : s.vm.findClass RX4 = some m.cls := hown
  have hl : lv_has ls 3 [(0, .ref (G.2.1 0)), (1, .int x), (2, .int y)] := hl
  have hS : va_S (oA G) s.heap s.heap [] := va_S.rf
  obtain ⟨hz1, hz2, hz3, hz4, hz5, hz6, hz7⟩ := id hz
  have n1 := oIn_lt (by omega) h1
  have n2 := oIn_lt (by omega) h2
  refine lv_aload_n hx hb dX4_organ_0 rfl (lv_at hl 0 rfl) ?_
  refine lv_iload_n hx hb dX4_organ_1 rfl (lv_at hl 1 rfl) ?_
  refine o_cVmv (q0 := 0) (ci := 6) [.int x] [] ⟨hx, hb, hml, hown, hts⟩ (m_X4_checkOrgan l G hI α β γ nS nO nH hz x (h1)) (cwV 1 hts gX4_organ_X4_checkOrgan rfl rfl rfl (by decide +kernel) ⟨Nat.le_of_ble_eq_true rfl, Nat.le_of_ble_eq_true rfl⟩) hK hN hP hS rfl rfl (cx_C G (z3 α β γ)) rfl hl.1 rfl (Nat.le_of_ble_eq_true rfl) dX4_organ_2 ⟨Nat.zero_le _, Nat.zero_le _⟩ (fun H locs hP hS => ?_)
  refine lv_iload_n hx hb dX4_organ_5 rfl (lv_at hl 2 rfl) ?_
  refine lv_bipush (v := 11) hx hb dX4_organ_6 (by decide) ?_
  refine o_cSmv [.int y, .int 11] [] ⟨hx, hb, hml, hown, hts⟩ (m_X4_checkIndex l G hI α β γ y 11 11 ((by decide)) (by omega) (h2)) (va_cwS 2 hts gX4_organ_X4_checkIndex rfl rfl rfl (by decide +kernel) ⟨Nat.le_of_ble_eq_true rfl, Nat.le_of_ble_eq_true rfl⟩) hK hN hP hS rfl hl.1 rfl (Nat.le_of_ble_eq_true rfl) dX4_organ_8 ⟨Nat.zero_le _, Nat.zero_le _⟩ (fun H locs hP hS => ?_)
  refine lv_aload_n hx hb dX4_organ_11 rfl (lv_at hl 0 rfl) ?_
  refine va_get (D := G.1) (ci := 6) (v := .ref (ta G 0 (0))) (C := RX4) (T := TX4) (N := 3) hx hb hts (fun w9 h9 => List.mem_cons_of_mem _ (List.mem_append_left _ (List.mem_append_left _ (List.mem_append_left _ (List.mem_append_right _ (h9)))))) hown hK hP (0) (cx_C G (z3 α β γ)) rfl 0 (by decide) (hts (.fieldLink RX4 10 "OrganCensus" "town" "LOrganCensus$Town;") (List.mem_of_getElem? (i := 1) rfl)) (fun _ h9 => h9) rfl dX4_organ_12 ?_
  refine va_get (D := G.1) (ci := 5) (v := .ref (ta G 0 (2))) (C := RX3) (T := TX3) (N := 5) hx hb hts (fun w9 h9 => List.mem_cons_of_mem _ (List.mem_append_left _ (List.mem_append_left _ (List.mem_append_right _ (h9))))) hown hK hP (1 + 67 * 0 + (0)) (cx_T G (z3 α β γ) (show 0 < 2 by decide)) rfl 1 (by decide) (hts (.fieldLink RX4 97 "OrganCensus$Town" "organs" "[LOrganCensus$Organ;") (List.mem_of_getElem? (i := 2) rfl)) (fun _ h9 => h9) rfl dX4_organ_15 ?_
  refine lv_iload_n hx hb dX4_organ_18 rfl (lv_at hl 1 rfl) ?_
  refine o_aald (k := oN x) (C := RX0) hx hb hK hP (1 + 67 * 0 + (2)) 2 (cx_OA G (z3 α β γ) (show 0 < 2 by decide)) rfl (oIn_x h1) (by omega) (by decide) rfl dX4_organ_19 ?_
  refine lv_iload_n hx hb dX4_organ_20 rfl (lv_at hl 2 rfl) ?_
  have hP : va_P G.1 vwCl (tw G (z3 α β γ) 0 α) H := by rw [tz0]; exact hP
  refine o_cVi (q0 := 1 + 67 * 0 + (27 + 5 * (oN x))) (ci := 2) [.int y] [] ⟨hx, hb, hml, hown, hts⟩ (m_X0_fact l G (z3 α β γ) (show 0 < 2 by decide) α (oN x) (by omega) (oN y) y ((oIn_x h2)) (by omega)) (cwV 1 hts gX4_organ_X0_fact rfl rfl rfl (by decide +kernel) ⟨Nat.le_of_ble_eq_true rfl, Nat.le_of_ble_eq_true rfl⟩) hK hN hP rfl rfl (tw_O G (z3 α β γ) (show 0 < 2 by decide) α (by omega)) rfl hl.1 rfl (Nat.le_of_ble_eq_true rfl) dX4_organ_21 ⟨Nat.zero_le _, Nat.zero_le _⟩ ?_
  have hP : va_P G.1 vwCl (cw G (z3 α β γ)) H := by rw [tz0] at hP; exact hP
  exact o_iretM hx hb hr hlocks hS dX4_organ_24 (hP) (rfl)
set_option maxHeartbeats 4000000 in
set_option maxRecDepth 100000 in
theorem m_X4_banished (l : Launch) (G : oG) (hI : wl_I G.2.1 137) (α β γ : oT) (nS : Nat) (nO : Nat) (nH : Nat) (hz : oOK α nS nO nH) (x : Int32) (y : Int32) (h1 : oIn x nO = true) (h2 : oIn y nS = true) : Met l yX4_banished wsX4_banished ({ frames := 2, cells := 0, slots := 0, locals := 42 } : Room) (va_Pc [.ref (G.2.1 0), .int x, .int y] (PW G (cw G (z3 α β γ)))) (oQ (some (.int (α 9 (oN x) (oN y)))) (fun H9 => va_P G.1 vwCl (cw G (z3 α β γ)) H9) (oA G)) 0 0 (oA G) := by
  refine o_body (cc := cX4_banished) (by decide +kernel) rfl (Nat.le_of_ble_eq_true rfl) ?_
  intro p e s m below meth c ls hx hb hml hr hlocks hown hts hP hK hN hl
  have hown : s.vm.findClass RX4 = some m.cls := hown
  have hl : lv_has ls 3 [(0, .ref (G.2.1 0)), (1, .int x), (2, .int y)] := hl
  have hS : va_S (oA G) s.heap s.heap [] := va_S.rf
  obtain ⟨hz1, hz2, hz3, hz4, hz5, hz6, hz7⟩ := id hz
  have n1 := oIn_lt (by omega) h1
  have n2 := oIn_lt (by omega) h2
  refine lv_aload_n hx hb dX4_banished_0 rfl (lv_at hl 0 rfl) ?_
  refine lv_iload_n hx hb dX4_banished_1 rfl (lv_at hl 1 rfl) ?_
  refine o_cVmv (q0 := 0) (ci := 6) [.int x] [] ⟨hx, hb, hml, hown, hts⟩ (m_X4_checkOrgan l G hI α β γ nS nO nH hz x (h1)) (cwV 1 hts gX4_banished_X4_checkOrgan rfl rfl rfl (by decide +kernel) ⟨Nat.le_of_ble_eq_true rfl, Nat.le_of_ble_eq_true rfl⟩) hK hN hP hS rfl rfl (cx_C G (z3 α β γ)) rfl hl.1 rfl (Nat.le_of_ble_eq_true rfl) dX4_banished_2 ⟨Nat.zero_le _, Nat.zero_le _⟩ (fun H locs hP hS => ?_)
  refine lv_aload_n hx hb dX4_banished_5 rfl (lv_at hl 0 rfl) ?_
  refine lv_iload_n hx hb dX4_banished_6 rfl (lv_at hl 2 rfl) ?_
  refine o_cVmv (q0 := 0) (ci := 6) [.int y] [] ⟨hx, hb, hml, hown, hts⟩ (m_X4_checkStreet l G hI α β γ nS nO nH hz y (h2)) (cwV 1 hts gX4_banished_X4_checkStreet rfl rfl rfl (by decide +kernel) ⟨Nat.le_of_ble_eq_true rfl, Nat.le_of_ble_eq_true rfl⟩) hK hN hP hS rfl rfl (cx_C G (z3 α β γ)) rfl hl.1 rfl (Nat.le_of_ble_eq_true rfl) dX4_banished_7 ⟨Nat.zero_le _, Nat.zero_le _⟩ (fun H locs hP hS => ?_)
  refine lv_aload_n hx hb dX4_banished_10 rfl (lv_at hl 0 rfl) ?_
  refine va_get (D := G.1) (ci := 6) (v := .ref (ta G 0 (0))) (C := RX4) (T := TX4) (N := 3) hx hb hts (fun w9 h9 => List.mem_cons_of_mem _ (List.mem_append_left _ (List.mem_append_left _ (List.mem_append_left _ (List.mem_append_right _ (h9)))))) hown hK hP (0) (cx_C G (z3 α β γ)) rfl 0 (by decide) (hts (.fieldLink RX4 10 "OrganCensus" "town" "LOrganCensus$Town;") (List.mem_of_getElem? (i := 1) rfl)) (fun _ h9 => h9) rfl dX4_banished_11 ?_
  refine va_get (D := G.1) (ci := 5) (v := .ref (ta G 0 (2))) (C := RX3) (T := TX3) (N := 5) hx hb hts (fun w9 h9 => List.mem_cons_of_mem _ (List.mem_append_left _ (List.mem_append_left _ (List.mem_append_right _ (h9))))) hown hK hP (1 + 67 * 0 + (0)) (cx_T G (z3 α β γ) (show 0 < 2 by decide)) rfl 1 (by decide) (hts (.fieldLink RX4 97 "OrganCensus$Town" "organs" "[LOrganCensus$Organ;") (List.mem_of_getElem? (i := 2) rfl)) (fun _ h9 => h9) rfl dX4_banished_14 ?_
  refine lv_iload_n hx hb dX4_banished_17 rfl (lv_at hl 1 rfl) ?_
  refine o_aald (k := oN x) (C := RX0) hx hb hK hP (1 + 67 * 0 + (2)) 2 (cx_OA G (z3 α β γ) (show 0 < 2 by decide)) rfl (oIn_x h1) (by omega) (by decide) rfl dX4_banished_18 ?_
  refine va_get (D := G.1) (ci := 2) (v := .ref (ta G 0 (31 + 5 * (oN x)))) (C := RX0) (T := TX0) (N := 12) hx hb hts (fun w9 h9 => List.mem_cons_of_mem _ (List.mem_append_left _ (List.mem_append_right _ (h9)))) hown hK hP (1 + 67 * 0 + (27 + 5 * (oN x))) (cx_O G (z3 α β γ) (show 0 < 2 by decide) (by omega)) rfl 3 (by decide) (hts (.fieldLink RX4 109 "OrganCensus$Organ" "banishedHours" "[I") (List.mem_of_getElem? (i := 3) rfl)) (fun _ h9 => h9) rfl dX4_banished_19 ?_
  refine lv_iload_n hx hb dX4_banished_22 rfl (lv_at hl 2 rfl) ?_
  refine o_iald (k := oN y) hx hb hK hP (1 + 67 * 0 + (31 + 5 * (oN x))) 0 (cx_Ob G (z3 α β γ) (show 0 < 2 by decide) (by omega)) rfl (oIn_x h2) (by omega) (by decide) dX4_banished_23 ?_
  exact o_iretM hx hb hr hlocks hS dX4_banished_24 (hP) (rfl)
set_option maxHeartbeats 4000000 in
set_option maxRecDepth 100000 in
theorem m_X4_heard (l : Launch) (G : oG) (hI : wl_I G.2.1 137) (α β γ : oT) (nS : Nat) (nO : Nat) (nH : Nat) (hz : oOK α nS nO nH) (x : Int32) (y : Int32) (h1 : oIn x nS = true) (h2 : oIn y (oNp α (oN x)) = true) : Met l yX4_heard wsX4_heard ({ frames := 3, cells := 0, slots := 0, locals := 70 } : Room) (va_Pc [.ref (G.2.1 0), .int x, .int y] (PW G (cw G (z3 α β γ)))) (oQ (some (.int (oHeard α nO x y))) (fun H9 => va_P G.1 vwCl (cw G (z3 α β γ)) H9) (oA G)) 0 0 (oA G) := by
  refine o_body (cc := cX4_heard) (by decide +kernel) rfl (Nat.le_of_ble_eq_true rfl) ?_
  intro p e s m below meth c ls hx hb hml hr hlocks hown hts hP hK hN hl
  have hown : s.vm.findClass RX4 = some m.cls := hown
  have hl : lv_has ls 3 [(0, .ref (G.2.1 0)), (1, .int x), (2, .int y)] := hl
  have hS : va_S (oA G) s.heap s.heap [] := va_S.rf
  obtain ⟨hz1, hz2, hz3, hz4, hz5, hz6, hz7⟩ := id hz
  refine lv_aload_n hx hb dX4_heard_0 rfl (lv_at hl 0 rfl) ?_
  refine lv_iload_n hx hb dX4_heard_1 rfl (lv_at hl 1 rfl) ?_
  refine lv_iload_n hx hb dX4_heard_2 rfl (lv_at hl 2 rfl) ?_
  refine o_cVmv (q0 := 0) (ci := 6) [.int x, .int y] [] ⟨hx, hb, hml, hown, hts⟩ (m_X4_checkPitch l G hI α β γ nS nO nH hz x y (h1) (h2)) (cwV 2 hts gX4_heard_X4_checkPitch rfl rfl rfl (by decide +kernel) ⟨Nat.le_of_ble_eq_true rfl, Nat.le_of_ble_eq_true rfl⟩) hK hN hP hS rfl rfl (cx_C G (z3 α β γ)) rfl hl.1 rfl (Nat.le_of_ble_eq_true rfl) dX4_heard_3 ⟨Nat.zero_le _, Nat.zero_le _⟩ (fun H locs hP hS => ?_)
  refine lv_aload_n hx hb dX4_heard_6 rfl (lv_at hl 0 rfl) ?_
  refine va_get (D := G.1) (ci := 6) (v := .ref (ta G 0 (0))) (C := RX4) (T := TX4) (N := 3) hx hb hts (fun w9 h9 => List.mem_cons_of_mem _ (List.mem_append_left _ (List.mem_append_left _ (List.mem_append_left _ (List.mem_append_left _ (List.mem_append_right _ (h9))))))) hown hK hP (0) (cx_C G (z3 α β γ)) rfl 0 (by decide) (hts (.fieldLink RX4 10 "OrganCensus" "town" "LOrganCensus$Town;") (List.mem_of_getElem? (i := 1) rfl)) (fun _ h9 => h9) rfl dX4_heard_7 ?_
  refine lv_iload_n hx hb dX4_heard_10 rfl (lv_at hl 1 rfl) ?_
  refine lv_iload_n hx hb dX4_heard_11 rfl (lv_at hl 2 rfl) ?_
  have hP : va_P G.1 vwCl (tw G (z3 α β γ) 0 α) H := by rw [tz0]; exact hP
  refine o_cVi (q0 := 1 + 67 * 0 + (0)) (ci := 5) [.int x, .int y] [] ⟨hx, hb, hml, hown, hts⟩ (m_X3_whoIsHeard l G (z3 α β γ) (show 0 < 2 by decide) α nS nO nH hz x y) (cwV 2 hts gX4_heard_X3_whoIsHeard rfl rfl rfl (by decide +kernel) ⟨Nat.le_of_ble_eq_true rfl, Nat.le_of_ble_eq_true rfl⟩) hK hN hP rfl rfl (tw_T G (z3 α β γ) (show 0 < 2 by decide) α) rfl hl.1 rfl (Nat.le_of_ble_eq_true rfl) dX4_heard_12 ⟨Nat.zero_le _, Nat.zero_le _⟩ ?_
  have hP : va_P G.1 vwCl (cw G (z3 α β γ)) H := by rw [tz0] at hP; exact hP
  exact o_iretM hx hb hr hlocks hS dX4_heard_15 (hP) (rfl)
