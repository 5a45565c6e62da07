set_option maxHeartbeats 4000000 in
set_option maxRecDepth 100000 in
theorem m_X4_checkIndex (l : Launch) (G : oG) (α β γ : oT) (x : Int32) (n : Nat) (an : Int32) (en : an = nI n) (hn : n < 2 ^ 31) (hi : oIn x n = true) : Met l yX4_checkIndex wsX4_checkIndex ({ frames := 0, cells := 0, slots := 0, locals := 0 } : Room) (va_Pc [.int x, .int an] (PW G (cw G (z3 α β γ)))) (oR none) 0 0 (fun _ => False) := by
  subst en
  refine o_body (cc := cX4_checkIndex) (by decide +kernel) rfl (Nat.le_of_ble_eq_true rfl) ?_
  intro p e s m below meth c ls hx hb hml hr hlocks hown hts hP hK hN hl
  have hown : s.vm.findClass RX4 = some m.cls := hown
  have hl : lv_has ls 2 [(0, .int x), (1, .int (nI n))] := hl
  have hl9 := oIn_lt hn hi
  have hl8 := @oN_lt x
  refine lv_iload_n hx hb dX4_checkIndex_0 rfl (lv_at hl 0 rfl) ?_
  refine lv_if_lt (tgt := 9) hx hb dX4_checkIndex_1 (by decide) (fun c1 => ?_) (fun c1 => ?_)
  · exact absurd c1 (by rw [oIn_x hi]; exact nI_pos hl8)
  · refine lv_iload_n hx hb dX4_checkIndex_4 rfl (lv_at hl 0 rfl) ?_
    refine lv_iload_n hx hb dX4_checkIndex_5 rfl (lv_at hl 1 rfl) ?_
    refine lv_icmp_lt (tgt := 19) hx hb dX4_checkIndex_6 (by decide) (fun c6 => ?_) (fun c6 => ?_)
    · have n6 := (o_nlt (a := oN x) (b := n) (oIn_x hi) rfl (by omega) (by omega)).mp c6
      exact o_vretR hx hb hr hlocks dX4_checkIndex_19
    · have n6 := (mt (o_nlt (a := oN x) (b := n) (oIn_x hi) rfl (by omega) (by omega)).mpr) c6; omega
set_option maxHeartbeats 4000000 in
set_option maxRecDepth 100000 in
theorem m_X4_checkRange (l : Launch) (G : oG) (α β γ : oT) (x : Int32) (y : Int32) (z : Int32) (hi : oRg x y z = true) : Met l yX4_checkRange wsX4_checkRange ({ frames := 0, cells := 0, slots := 0, locals := 0 } : Room) (va_Pc [.int x, .int y, .int z] (PW G (cw G (z3 α β γ)))) (oR none) 0 0 (fun _ => False) := by
  refine o_body (cc := cX4_checkRange) (by decide +kernel) rfl (Nat.le_of_ble_eq_true rfl) ?_
  intro p e s m below meth c ls hx hb hml hr hlocks hown hts hP hK hN hl
  have hown : s.vm.findClass RX4 = some m.cls := hown
  have hl : lv_has ls 3 [(0, .int x), (1, .int y), (2, .int z)] := hl
  refine lv_iload_n hx hb dX4_checkRange_0 rfl (lv_at hl 0 rfl) ?_
  refine lv_iload_n hx hb dX4_checkRange_1 rfl (lv_at hl 1 rfl) ?_
  refine lv_icmp_lt (tgt := 10) hx hb dX4_checkRange_2 (by decide) (fun c2 => ?_) (fun c2 => ?_)
  · exact absurd c2 (Int32.not_lt.mpr (oRg_1 hi).1)
  · refine lv_iload_n hx hb dX4_checkRange_5 rfl (lv_at hl 0 rfl) ?_
    refine lv_iload_n hx hb dX4_checkRange_6 rfl (lv_at hl 2 rfl) ?_
    refine lv_icmp_le (tgt := 20) hx hb dX4_checkRange_7 (by decide) (fun c7 => ?_) (fun c7 => ?_)
    · exact o_vretR hx hb hr hlocks dX4_checkRange_20
    · exact absurd (oRg_1 hi).2 c7
set_option maxHeartbeats 4000000 in
set_option maxRecDepth 100000 in
theorem m_X4_checkStreet (l : Launch) (G : oG) (α β γ : oT) (nS : Nat) (nO : Nat) (nH : Nat) (hz : oOK α nS nO nH) (x : Int32) (hi : oIn x nS = true) : Met l yX4_checkStreet wsX4_checkStreet ({ frames := 1, cells := 0, slots := 0, locals := 21 } : Room) (va_Pc [.ref (G.2.1 0), .int x] (PW G (cw G (z3 α β γ)))) (oR none) 0 0 (fun _ => False) := by
  refine o_body (cc := cX4_checkStreet) (by decide +kernel) rfl (Nat.le_of_ble_eq_true rfl) ?_
  intro p e s m below meth c ls hx hb hml hr hlocks hown hts hP hK hN hl
  have hown : s.vm.findClass RX4 = some m.cls := hown
  have hl : lv_has ls 2 [(0, .ref (G.2.1 0)), (1, .int x)] := hl
  obtain ⟨hz1, hz2, hz3, hz4, hz5, hz6, hz7⟩ := id hz
  refine lv_iload_n hx hb dX4_checkStreet_0 rfl (lv_at hl 1 rfl) ?_
  refine lv_aload_n hx hb dX4_checkStreet_1 rfl (lv_at hl 0 rfl) ?_
  refine va_get (D := G.1) (ci := 6) (v := .ref (ta G 0 (0))) (C := RX4) (T := TX4) (N := 3) hx hb hts (fun w9 h9 => List.mem_cons_of_mem _ (List.mem_append_left _ (List.mem_append_left _ (List.mem_append_right _ (h9))))) hown hK hP (0) (cx_C G (z3 α β γ)) rfl 0 (by decide) (hts (.fieldLink RX4 10 "OrganCensus" "town" "LOrganCensus$Town;") (List.mem_of_getElem? (i := 1) rfl)) (fun _ h9 => h9) rfl dX4_checkStreet_2 ?_
  refine va_get (D := G.1) (ci := 5) (v := .int (α 18 0 0)) (C := RX3) (T := TX3) (N := 5) hx hb hts (fun w9 h9 => List.mem_cons_of_mem _ (List.mem_append_left _ (List.mem_append_right _ (h9)))) hown hK hP (1 + 67 * 0 + (0)) (cx_T G (z3 α β γ) (show 0 < 2 by decide)) rfl 2 (by decide) (hts (.fieldLink RX4 30 "OrganCensus$Town" "streetCount" "I") (List.mem_of_getElem? (i := 2) rfl)) (fun _ h9 => h9) rfl dX4_checkStreet_5 ?_
  refine o_cSv [.int x, .int (α 18 0 0)] [] ⟨hx, hb, hml, hown, hts⟩ (m_X4_checkIndex l G α β γ x nS (α 18 0 0) (hz.1) (by omega) (hi)) (va_cwS 2 hts gX4_checkStreet_X4_checkIndex rfl rfl rfl (by decide +kernel) ⟨Nat.le_of_ble_eq_true rfl, Nat.le_of_ble_eq_true rfl⟩) hK hN hP rfl hl.1 rfl (Nat.le_of_ble_eq_true rfl) dX4_checkStreet_8 ⟨Nat.zero_le _, Nat.zero_le _⟩ ?_
  exact o_vretR hx hb hr hlocks dX4_checkStreet_11
set_option maxHeartbeats 4000000 in
set_option maxRecDepth 100000 in
theorem m_X4_checkOrgan (l : Launch) (G : oG) (α β γ : oT) (nS : Nat) (nO : Nat) (nH : Nat) (hz : oOK α nS nO nH) (x : Int32) (hi : oIn x nO = true) : Met l yX4_checkOrgan wsX4_checkOrgan ({ frames := 1, cells := 0, slots := 0, locals := 21 } : Room) (va_Pc [.ref (G.2.1 0), .int x] (PW G (cw G (z3 α β γ)))) (oR none) 0 0 (fun _ => False) := by
  refine o_body (cc := cX4_checkOrgan) (by decide +kernel) rfl (Nat.le_of_ble_eq_true rfl) ?_
  intro p e s m below meth c ls hx hb hml hr hlocks hown hts hP hK hN hl
  have hown : s.vm.findClass RX4 = some m.cls := hown
  have hl : lv_has ls 2 [(0, .ref (G.2.1 0)), (1, .int x)] := hl
  obtain ⟨hz1, hz2, hz3, hz4, hz5, hz6, hz7⟩ := id hz
  refine lv_iload_n hx hb dX4_checkOrgan_0 rfl (lv_at hl 1 rfl) ?_
  refine lv_aload_n hx hb dX4_checkOrgan_1 rfl (lv_at hl 0 rfl) ?_
  refine va_get (D := G.1) (ci := 6) (v := .ref (ta G 0 (0))) (C := RX4) (T := TX4) (N := 3) hx hb hts (fun w9 h9 => List.mem_cons_of_mem _ (List.mem_append_left _ (List.mem_append_left _ (List.mem_append_right _ (h9))))) hown hK hP (0) (cx_C G (z3 α β γ)) rfl 0 (by decide) (hts (.fieldLink RX4 10 "OrganCensus" "town" "LOrganCensus$Town;") (List.mem_of_getElem? (i := 1) rfl)) (fun _ h9 => h9) rfl dX4_checkOrgan_2 ?_
  refine va_get (D := G.1) (ci := 5) (v := .int (α 18 0 1)) (C := RX3) (T := TX3) (N := 5) hx hb hts (fun w9 h9 => List.mem_cons_of_mem _ (List.mem_append_left _ (List.mem_append_right _ (h9)))) hown hK hP (1 + 67 * 0 + (0)) (cx_T G (z3 α β γ) (show 0 < 2 by decide)) rfl 3 (by decide) (hts (.fieldLink RX4 76 "OrganCensus$Town" "organCount" "I") (List.mem_of_getElem? (i := 2) rfl)) (fun _ h9 => h9) rfl dX4_checkOrgan_5 ?_
  refine o_cSv [.int x, .int (α 18 0 1)] [] ⟨hx, hb, hml, hown, hts⟩ (m_X4_checkIndex l G α β γ x nO (α 18 0 1) (hz.2.2.1) (by omega) (hi)) (va_cwS 2 hts gX4_checkOrgan_X4_checkIndex rfl rfl rfl (by decide +kernel) ⟨Nat.le_of_ble_eq_true rfl, Nat.le_of_ble_eq_true rfl⟩) hK hN hP rfl hl.1 rfl (Nat.le_of_ble_eq_true rfl) dX4_checkOrgan_8 ⟨Nat.zero_le _, Nat.zero_le _⟩ ?_
  exact o_vretR hx hb hr hlocks dX4_checkOrgan_11
set_option maxHeartbeats 4000000 in
set_option maxRecDepth 100000 in
theorem m_X4_checkPitch (l : Launch) (G : oG) (α β γ : oT) (nS : Nat) (nO : Nat) (nH : Nat) (hz : oOK α nS nO nH) (x : Int32) (y : Int32) (hi : oIn x nS = true) (hj : oIn y (oNp α (oN x)) = true) : Met l yX4_checkPitch wsX4_checkPitch ({ frames := 2, cells := 0, slots := 0, locals := 42 } : Room) (va_Pc [.ref (G.2.1 0), .int x, .int y] (PW G (cw G (z3 α β γ)))) (oR none) 0 0 (fun _ => False) := by
  refine o_body (cc := cX4_checkPitch) (by decide +kernel) rfl (Nat.le_of_ble_eq_true rfl) ?_
  intro p e s m below meth c ls hx hb hml hr hlocks hown hts hP hK hN hl
  have hown : s.vm.findClass RX4 = some m.cls := hown
  have hl : lv_has ls 3 [(0, .ref (G.2.1 0)), (1, .int x), (2, .int y)] := hl
  obtain ⟨hz1, hz2, hz3, hz4, hz5, hz6, hz7⟩ := id hz
  have n1 := oIn_lt (by omega) hi
  have hp1 := (hz7 (oN x) (by omega)).2
  refine lv_aload_n hx hb dX4_checkPitch_0 rfl (lv_at hl 0 rfl) ?_
  refine lv_iload_n hx hb dX4_checkPitch_1 rfl (lv_at hl 1 rfl) ?_
  refine o_cVv (q0 := 0) (ci := 6) [.int x] [] ⟨hx, hb, hml, hown, hts⟩ (m_X4_checkStreet l G α β γ nS nO nH hz x (hi)) (cwV 1 hts gX4_checkPitch_X4_checkStreet rfl rfl rfl (by decide +kernel) ⟨Nat.le_of_ble_eq_true rfl, Nat.le_of_ble_eq_true rfl⟩) hK hN hP rfl rfl (cx_C G (z3 α β γ)) rfl hl.1 rfl (Nat.le_of_ble_eq_true rfl) dX4_checkPitch_2 ⟨Nat.zero_le _, Nat.zero_le _⟩ ?_
  refine lv_iload_n hx hb dX4_checkPitch_5 rfl (lv_at hl 2 rfl) ?_
  refine lv_aload_n hx hb dX4_checkPitch_6 rfl (lv_at hl 0 rfl) ?_
  refine va_get (D := G.1) (ci := 6) (v := .ref (ta G 0 (0))) (C := RX4) (T := TX4) (N := 3) hx hb hts (fun w9 h9 => List.mem_cons_of_mem _ (List.mem_append_left _ (List.mem_append_left _ (List.mem_append_left _ (List.mem_append_right _ (h9)))))) hown hK hP (0) (cx_C G (z3 α β γ)) rfl 0 (by decide) (hts (.fieldLink RX4 10 "OrganCensus" "town" "LOrganCensus$Town;") (List.mem_of_getElem? (i := 1) rfl)) (fun _ h9 => h9) rfl dX4_checkPitch_7 ?_
  refine va_get (D := G.1) (ci := 5) (v := .ref (ta G 0 (1))) (C := RX3) (T := TX3) (N := 5) hx hb hts (fun w9 h9 => List.mem_cons_of_mem _ (List.mem_append_left _ (List.mem_append_left _ (List.mem_append_right _ (h9))))) hown hK hP (1 + 67 * 0 + (0)) (cx_T G (z3 α β γ) (show 0 < 2 by decide)) rfl 0 (by decide) (hts (.fieldLink RX4 53 "OrganCensus$Town" "streets" "[LOrganCensus$Street;") (List.mem_of_getElem? (i := 2) rfl)) (fun _ h9 => h9) rfl dX4_checkPitch_10 ?_
  refine lv_iload_n hx hb dX4_checkPitch_13 rfl (lv_at hl 1 rfl) ?_
  refine o_aald (k := oN x) (C := RX2) hx hb hK hP (1 + 67 * 0 + (1)) 1 (cx_SA G (z3 α β γ) (show 0 < 2 by decide)) rfl (oIn_x hi) (by omega) (by decide) rfl dX4_checkPitch_14 ?_
  refine va_get (D := G.1) (ci := 4) (v := .int (α 3 (oN x) 0)) (C := RX2) (T := TX2) (N := 6) hx hb hts (fun w9 h9 => List.mem_cons_of_mem _ (List.mem_append_left _ (List.mem_append_right _ (h9)))) hown hK hP (1 + 67 * 0 + (3 + 4 * (oN x))) (cx_S G (z3 α β γ) (show 0 < 2 by decide) (by omega)) rfl 3 (by decide) (hts (.fieldLink RX4 143 "OrganCensus$Street" "pitches" "I") (List.mem_of_getElem? (i := 3) rfl)) (fun _ h9 => h9) rfl dX4_checkPitch_15 ?_
  refine o_cSv [.int y, .int (α 3 (oN x) 0)] [] ⟨hx, hb, hml, hown, hts⟩ (m_X4_checkIndex l G α β γ y (oNp α (oN x)) (α 3 (oN x) 0) ((hz.2.2.2.2.2.2 (oN x) (by omega)).1) (by omega) (hj)) (va_cwS 2 hts gX4_checkPitch_X4_checkIndex rfl rfl rfl (by decide +kernel) ⟨Nat.le_of_ble_eq_true rfl, Nat.le_of_ble_eq_true rfl⟩) hK hN hP rfl hl.1 rfl (Nat.le_of_ble_eq_true rfl) dX4_checkPitch_18 ⟨Nat.zero_le _, Nat.zero_le _⟩ ?_
  exact o_vretR hx hb hr hlocks dX4_checkPitch_21
set_option maxHeartbeats 4000000 in
set_option maxRecDepth 100000 in
theorem m_X4_build (l : Launch) (G : oG) (hI : wl_I G.2.1 137) (α β γ : oT) (nS : Nat) (nO : Nat) (nH : Nat) (hz : oOK α nS nO nH) (x : Int32) (h1 : oRg x 3 20 = true) (h2 : nS < 6) : Met l yX4_build wsX4_build ({ frames := 1, cells := 0, slots := 0, locals := 22 } : Room) (va_Pc [.ref (G.2.1 0), .int x] (PW G (cw G (z3 α β γ)))) (oQ (some (.int (nI nS))) (fun H9 => va_P G.1 vwCl (cw G (z3 (su (su α 3 nS 0 x) 18 0 0 (nI (nS + 1))) β γ)) H9) (oA G)) 0 0 (oA G) := by
  refine o_body (cc := cX4_build) (by decide +kernel) rfl (Nat.le_of_ble_eq_true rfl) ?_
  intro p e s m below meth c ls hx hb hml hr hlocks hown hts hP hK hN hl
  have hown : s.vm.findClass RX4 = some m.cls := hown
  have hl : lv_has ls 2 [(0, .ref (G.2.1 0)), (1, .int x)] := hl
  have hS : va_S (oA G) s.heap s.heap [] := va_S.rf
  obtain ⟨hz1, hz2, hz3, hz4, hz5, hz6, hz7⟩ := id hz
  refine lv_iload_n hx hb dX4_build_0 rfl (lv_at hl 1 rfl) ?_
  refine lv_iconst (v := 3) hx hb dX4_build_1 (by decide) ?_
  refine lv_bipush (v := 20) hx hb dX4_build_2 (by decide) ?_
  refine o_cSv [.int x, .int 3, .int 20] [] ⟨hx, hb, hml, hown, hts⟩ (m_X4_checkRange l G α β γ x 3 20 (h1)) (va_cwS 3 hts gX4_build_X4_checkRange rfl rfl rfl (by decide +kernel) ⟨Nat.le_of_ble_eq_true rfl, Nat.le_of_ble_eq_true rfl⟩) hK hN hP rfl hl.1 rfl (Nat.le_of_ble_eq_true rfl) dX4_build_4 ⟨Nat.zero_le _, Nat.zero_le _⟩ ?_
  refine lv_aload_n hx hb dX4_build_7 rfl (lv_at hl 0 rfl) ?_
  refine va_get (D := G.1) (ci := 6) (v := .ref (ta G 0 (0))) (C := RX4) (T := TX4) (N := 3) hx hb hts (fun w9 h9 => List.mem_cons_of_mem _ (List.mem_append_left _ (List.mem_append_left _ (List.mem_append_left _ (List.mem_append_left _ (List.mem_append_right _ (h9))))))) hown hK hP (0) (cx_C G (z3 α β γ)) rfl 0 (by decide) (hts (.fieldLink RX4 10 "OrganCensus" "town" "LOrganCensus$Town;") (List.mem_of_getElem? (i := 3) rfl)) (fun _ h9 => h9) rfl dX4_build_8 ?_
  refine va_get (D := G.1) (ci := 5) (v := .int (α 18 0 0)) (C := RX3) (T := TX3) (N := 5) hx hb hts (fun w9 h9 => List.mem_cons_of_mem _ (List.mem_append_left _ (List.mem_append_left _ (List.mem_append_left _ (List.mem_append_right _ (h9)))))) hown hK hP (1 + 67 * 0 + (0)) (cx_T G (z3 α β γ) (show 0 < 2 by decide)) rfl 2 (by decide) (hts (.fieldLink RX4 30 "OrganCensus$Town" "streetCount" "I") (List.mem_of_getElem? (i := 4) rfl)) (fun _ h9 => h9) rfl dX4_build_11 ?_
  refine lv_bipush (v := 6) hx hb dX4_build_14 (by decide) ?_
  refine lv_icmp_lt (tgt := 29) hx hb dX4_build_16 (by decide) (fun c16 => ?_) (fun c16 => ?_)
  · have n16 := (o_nlt (a := nS) (b := 6) hz.1 (by decide) (by omega) (by omega)).mp c16
    refine lv_aload_n hx hb dX4_build_29 rfl (lv_at hl 0 rfl) ?_
    refine va_get (D := G.1) (ci := 6) (v := .ref (ta G 0 (0))) (C := RX4) (T := TX4) (N := 3) hx hb hts (fun w9 h9 => List.mem_cons_of_mem _ (List.mem_append_left _ (List.mem_append_left _ (List.mem_append_left _ (List.mem_append_left _ (List.mem_append_right _ (h9))))))) hown hK hP (0) (cx_C G (z3 α β γ)) rfl 0 (by decide) (hts (.fieldLink RX4 10 "OrganCensus" "town" "LOrganCensus$Town;") (List.mem_of_getElem? (i := 3) rfl)) (fun _ h9 => h9) rfl dX4_build_30 ?_
    refine lv_iload_n hx hb dX4_build_33 rfl (lv_at hl 1 rfl) ?_
    have hP : va_P G.1 vwCl (tw G (z3 α β γ) 0 α) s.heap := by rw [tz0]; exact hP
    refine o_cVmi (q0 := 1 + 67 * 0 + (0)) (ci := 5) [.int x] [] ⟨hx, hb, hml, hown, hts⟩ (m_X3_newStreet l G (z3 α β γ) (show 0 < 2 by decide) hI α nS nO nH hz (by omega) x) (cwV 1 hts gX4_build_X3_newStreet rfl rfl rfl (by decide +kernel) ⟨Nat.le_of_ble_eq_true rfl, Nat.le_of_ble_eq_true rfl⟩) hK hN hP hS rfl rfl (tw_T G (z3 α β γ) (show 0 < 2 by decide) α) rfl hl.1 rfl (Nat.le_of_ble_eq_true rfl) dX4_build_34 ⟨Nat.zero_le _, Nat.zero_le _⟩ (fun H locs hP hS => ?_)
    have hP : va_P G.1 vwCl (cw G (z3 (su (su α 3 nS 0 x) 18 0 0 (nI (nS + 1))) β γ)) H := by rw [tz0] at hP; exact hP
    exact o_iretM hx hb hr hlocks hS dX4_build_37 (hP) (rfl)
  · have n16 := (mt (o_nlt (a := nS) (b := 6) hz.1 (by decide) (by omega) (by omega)).mpr) c16; omega
set_option maxHeartbeats 4000000 in
set_option maxRecDepth 100000 in
theorem m_X4_setPassers (l : Launch) (G : oG) (hI : wl_I G.2.1 137) (α β γ : oT) (nS : Nat) (nO : Nat) (nH : Nat) (hz : oOK α nS nO nH) (x : Int32) (y : Int32) (z : Int32) (h1 : oIn x nS = true) (h2 : oIn y 24 = true) (h3 : oRg z 0 99 = true) : Met l yX4_setPassers wsX4_setPassers ({ frames := 2, cells := 0, slots := 0, locals := 42 } : Room) (va_Pc [.ref (G.2.1 0), .int x, .int y, .int z] (PW G (cw G (z3 α β γ)))) (oQ (some (.int (α 0 (oN x) (oN y)))) (fun H9 => va_P G.1 vwCl (cw G (z3 (su α 0 (oN x) (oN y) z) β γ)) H9) (oA G)) 0 0 (oA G) := by
  refine o_body (cc := cX4_setPassers) (by decide +kernel) rfl (Nat.le_of_ble_eq_true rfl) ?_
  intro p e s m below meth c ls hx hb hml hr hlocks hown hts hP hK hN hl
  have hown : s.vm.findClass RX4 = some m.cls := hown
  have hl : lv_has ls 6 [(0, .ref (G.2.1 0)), (1, .int x), (2, .int y), (3, .int z)] := hl
  have hS : va_S (oA G) s.heap s.heap [] := va_S.rf
  obtain ⟨hz1, hz2, hz3, hz4, hz5, hz6, hz7⟩ := id hz
  have n1 := oIn_lt (by omega) h1
  have n2 := oIn_lt (by omega) h2
  refine lv_aload_n hx hb dX4_setPassers_0 rfl (lv_at hl 0 rfl) ?_
  refine lv_iload_n hx hb dX4_setPassers_1 rfl (lv_at hl 1 rfl) ?_
  refine o_cVv (q0 := 0) (ci := 6) [.int x] [] ⟨hx, hb, hml, hown, hts⟩ (m_X4_checkStreet l G α β γ nS nO nH hz x (h1)) (cwV 1 hts gX4_setPassers_X4_checkStreet rfl rfl rfl (by decide +kernel) ⟨Nat.le_of_ble_eq_true rfl, Nat.le_of_ble_eq_true rfl⟩) hK hN hP rfl rfl (cx_C G (z3 α β γ)) rfl hl.1 rfl (Nat.le_of_ble_eq_true rfl) dX4_setPassers_2 ⟨Nat.zero_le _, Nat.zero_le _⟩ ?_
  refine lv_iload_n hx hb dX4_setPassers_5 rfl (lv_at hl 2 rfl) ?_
  refine lv_bipush (v := 24) hx hb dX4_setPassers_6 (by decide) ?_
  refine o_cSv [.int y, .int 24] [] ⟨hx, hb, hml, hown, hts⟩ (m_X4_checkIndex l G α β γ y 24 24 ((by decide)) (by omega) (h2)) (va_cwS 2 hts gX4_setPassers_X4_checkIndex rfl rfl rfl (by decide +kernel) ⟨Nat.le_of_ble_eq_true rfl, Nat.le_of_ble_eq_true rfl⟩) hK hN hP rfl hl.1 rfl (Nat.le_of_ble_eq_true rfl) dX4_setPassers_8 ⟨Nat.zero_le _, Nat.zero_le _⟩ ?_
  refine lv_iload_n hx hb dX4_setPassers_11 rfl (lv_at hl 3 rfl) ?_
  refine lv_iconst (v := 0) hx hb dX4_setPassers_12 (by decide) ?_
  refine lv_bipush (v := 99) hx hb dX4_setPassers_13 (by decide) ?_
  refine o_cSv [.int z, .int 0, .int 99] [] ⟨hx, hb, hml, hown, hts⟩ (m_X4_checkRange l G α β γ z 0 99 (h3)) (va_cwS 3 hts gX4_setPassers_X4_checkRange rfl rfl rfl (by decide +kernel) ⟨Nat.le_of_ble_eq_true rfl, Nat.le_of_ble_eq_true rfl⟩) hK hN hP rfl hl.1 rfl (Nat.le_of_ble_eq_true rfl) dX4_setPassers_15 ⟨Nat.zero_le _, Nat.zero_le _⟩ ?_
  refine lv_aload_n hx hb dX4_setPassers_18 rfl (lv_at hl 0 rfl) ?_
  refine va_get (D := G.1) (ci := 6) (v := .ref (ta G 0 (0))) (C := RX4) (T := TX4) (N := 3) hx hb hts (fun w9 h9 => List.mem_cons_of_mem _ (List.mem_append_left _ (List.mem_append_left _ (List.mem_append_left _ (List.mem_append_left _ (List.mem_append_right _ (h9))))))) hown hK hP (0) (cx_C G (z3 α β γ)) rfl 0 (by decide) (hts (.fieldLink RX4 10 "OrganCensus" "town" "LOrganCensus$Town;") (List.mem_of_getElem? (i := 1) rfl)) (fun _ h9 => h9) rfl dX4_setPassers_19 ?_
  refine va_get (D := G.1) (ci := 5) (v := .ref (ta G 0 (1))) (C := RX3) (T := TX3) (N := 5) hx hb hts (fun w9 h9 => List.mem_cons_of_mem _ (List.mem_append_left _ (List.mem_append_left _ (List.mem_append_left _ (List.mem_append_right _ (h9)))))) hown hK hP (1 + 67 * 0 + (0)) (cx_T G (z3 α β γ) (show 0 < 2 by decide)) rfl 0 (by decide) (hts (.fieldLink RX4 53 "OrganCensus$Town" "streets" "[LOrganCensus$Street;") (List.mem_of_getElem? (i := 2) rfl)) (fun _ h9 => h9) rfl dX4_setPassers_22 ?_
  refine lv_iload_n hx hb dX4_setPassers_25 rfl (lv_at hl 1 rfl) ?_
  refine o_aald (k := oN x) (C := RX2) hx hb hK hP (1 + 67 * 0 + (1)) 1 (cx_SA G (z3 α β γ) (show 0 < 2 by decide)) rfl (oIn_x h1) (by omega) (by decide) rfl dX4_setPassers_26 ?_
  refine va_get (D := G.1) (ci := 4) (v := .ref (ta G 0 (4 + 4 * (oN x)))) (C := RX2) (T := TX2) (N := 6) hx hb hts (fun w9 h9 => List.mem_cons_of_mem _ (List.mem_append_left _ (List.mem_append_left _ (List.mem_append_right _ (h9))))) hown hK hP (1 + 67 * 0 + (3 + 4 * (oN x))) (cx_S G (z3 α β γ) (show 0 < 2 by decide) (by omega)) rfl 0 (by decide) (hts (.fieldLink RX4 57 "OrganCensus$Street" "passersByHour" "[I") (List.mem_of_getElem? (i := 3) rfl)) (fun _ h9 => h9) rfl dX4_setPassers_27 ?_
  refine lv_astore (lv' := [(4, .ref (ta G 0 (4 + 4 * (oN x)))), (0, .ref (G.2.1 0)), (1, .int x), (2, .int y), (3, .int z)]) hx hb dX4_setPassers_30 hl (by decide) rfl (fun ls hl => ?_)
  refine lv_aload hx hb dX4_setPassers_32 (lv_at hl 0 rfl) ?_
  refine lv_iload_n hx hb dX4_setPassers_34 rfl (lv_at hl 3 rfl) ?_
  refine o_iald (k := oN y) hx hb hK hP (1 + 67 * 0 + (4 + 4 * (oN x))) 0 (cx_Sp G (z3 α β γ) (show 0 < 2 by decide) (by omega)) rfl (oIn_x h2) (by omega) (by decide) dX4_setPassers_35 ?_
  refine lv_istore (lv' := [(5, .int (α 0 (oN x) (oN y))), (4, .ref (ta G 0 (4 + 4 * (oN x)))), (0, .ref (G.2.1 0)), (1, .int x), (2, .int y), (3, .int z)]) hx hb dX4_setPassers_36 hl (by decide) rfl (fun ls hl => ?_)
  refine lv_aload hx hb dX4_setPassers_38 (lv_at hl 1 rfl) ?_
  refine lv_iload_n hx hb dX4_setPassers_40 rfl (lv_at hl 4 rfl) ?_
  refine lv_iload_n hx hb dX4_setPassers_41 rfl (lv_at hl 5 rfl) ?_
  refine o_iast (k := oN y) hx hb hK hP (cw_D G _ hI) hS (1 + 67 * 0 + (4 + 4 * (oN x))) 0 (cx_Sp G (z3 α β γ) (show 0 < 2 by decide) (by omega)) rfl (oIn_x h2) (by omega) (by decide) dX4_setPassers_42 (fun H locs hP hD hS => ?_)
  have hP : va_P G.1 vwCl (cw G (z3 (su α 0 (oN x) (oN y) z) β γ)) H := by rw [← (cu_z0 (a := α) (b := β) (c := γ) (τ' := su α 0 (oN x) (oN y) z) (cu_S0 G (z3 α β γ) (show 0 < 2 by decide) (by omega) (oN y) z))]; exact hP
  clear hD
  refine lv_iload hx hb dX4_setPassers_43 (lv_at hl 0 rfl) ?_
  exact o_iretM hx hb hr hlocks hS dX4_setPassers_45 (hP) (rfl)
set_option maxHeartbeats 4000000 in
set_option maxRecDepth 100000 in
theorem m_X4_setTaste (l : Launch) (G : oG) (hI : wl_I G.2.1 137) (α β γ : oT) (nS : Nat) (nO : Nat) (nH : Nat) (hz : oOK α nS nO nH) (x : Int32) (y : Int32) (z : Int32) (h1 : oIn x nS = true) (h2 : oIn y 6 = true) (h3 : oRg z 0 9 = true) : Met l yX4_setTaste wsX4_setTaste ({ frames := 2, cells := 0, slots := 0, locals := 42 } : Room) (va_Pc [.ref (G.2.1 0), .int x, .int y, .int z] (PW G (cw G (z3 α β γ)))) (oQ (some (.int (α 1 (oN x) (oN y)))) (fun H9 => va_P G.1 vwCl (cw G (z3 (su α 1 (oN x) (oN y) z) β γ)) H9) (oA G)) 0 0 (oA G) := by
  refine o_body (cc := cX4_setTaste) (by decide +kernel) rfl (Nat.le_of_ble_eq_true rfl) ?_
  intro p e s m below meth c ls hx hb hml hr hlocks hown hts hP hK hN hl
  have hown : s.vm.findClass RX4 = some m.cls := hown
  have hl : lv_has ls 6 [(0, .ref (G.2.1 0)), (1, .int x), (2, .int y), (3, .int z)] := hl
  have hS : va_S (oA G) s.heap s.heap [] := va_S.rf
  obtain ⟨hz1, hz2, hz3, hz4, hz5, hz6, hz7⟩ := id hz
  have n1 := oIn_lt (by omega) h1
  have n2 := oIn_lt (by omega) h2
  refine lv_aload_n hx hb dX4_setTaste_0 rfl (lv_at hl 0 rfl) ?_
  refine lv_iload_n hx hb dX4_setTaste_1 rfl (lv_at hl 1 rfl) ?_
  refine o_cVv (q0 := 0) (ci := 6) [.int x] [] ⟨hx, hb, hml, hown, hts⟩ (m_X4_checkStreet l G α β γ nS nO nH hz x (h1)) (cwV 1 hts gX4_setTaste_X4_checkStreet rfl rfl rfl (by decide +kernel) ⟨Nat.le_of_ble_eq_true rfl, Nat.le_of_ble_eq_true rfl⟩) hK hN hP rfl rfl (cx_C G (z3 α β γ)) rfl hl.1 rfl (Nat.le_of_ble_eq_true rfl) dX4_setTaste_2 ⟨Nat.zero_le _, Nat.zero_le _⟩ ?_
  refine lv_iload_n hx hb dX4_setTaste_5 rfl (lv_at hl 2 rfl) ?_
  refine lv_bipush (v := 6) hx hb dX4_setTaste_6 (by decide) ?_
  refine o_cSv [.int y, .int 6] [] ⟨hx, hb, hml, hown, hts⟩ (m_X4_checkIndex l G α β γ y 6 6 ((by decide)) (by omega) (h2)) (va_cwS 2 hts gX4_setTaste_X4_checkIndex rfl rfl rfl (by decide +kernel) ⟨Nat.le_of_ble_eq_true rfl, Nat.le_of_ble_eq_true rfl⟩) hK hN hP rfl hl.1 rfl (Nat.le_of_ble_eq_true rfl) dX4_setTaste_8 ⟨Nat.zero_le _, Nat.zero_le _⟩ ?_
  refine lv_iload_n hx hb dX4_setTaste_11 rfl (lv_at hl 3 rfl) ?_
  refine lv_iconst (v := 0) hx hb dX4_setTaste_12 (by decide) ?_
  refine lv_bipush (v := 9) hx hb dX4_setTaste_13 (by decide) ?_
  refine o_cSv [.int z, .int 0, .int 9] [] ⟨hx, hb, hml, hown, hts⟩ (m_X4_checkRange l G α β γ z 0 9 (h3)) (va_cwS 3 hts gX4_setTaste_X4_checkRange rfl rfl rfl (by decide +kernel) ⟨Nat.le_of_ble_eq_true rfl, Nat.le_of_ble_eq_true rfl⟩) hK hN hP rfl hl.1 rfl (Nat.le_of_ble_eq_true rfl) dX4_setTaste_15 ⟨Nat.zero_le _, Nat.zero_le _⟩ ?_
  refine lv_aload_n hx hb dX4_setTaste_18 rfl (lv_at hl 0 rfl) ?_
  refine va_get (D := G.1) (ci := 6) (v := .ref (ta G 0 (0))) (C := RX4) (T := TX4) (N := 3) hx hb hts (fun w9 h9 => List.mem_cons_of_mem _ (List.mem_append_left _ (List.mem_append_left _ (List.mem_append_left _ (List.mem_append_left _ (List.mem_append_right _ (h9))))))) hown hK hP (0) (cx_C G (z3 α β γ)) rfl 0 (by decide) (hts (.fieldLink RX4 10 "OrganCensus" "town" "LOrganCensus$Town;") (List.mem_of_getElem? (i := 1) rfl)) (fun _ h9 => h9) rfl dX4_setTaste_19 ?_
  refine va_get (D := G.1) (ci := 5) (v := .ref (ta G 0 (1))) (C := RX3) (T := TX3) (N := 5) hx hb hts (fun w9 h9 => List.mem_cons_of_mem _ (List.mem_append_left _ (List.mem_append_left _ (List.mem_append_left _ (List.mem_append_right _ (h9)))))) hown hK hP (1 + 67 * 0 + (0)) (cx_T G (z3 α β γ) (show 0 < 2 by decide)) rfl 0 (by decide) (hts (.fieldLink RX4 53 "OrganCensus$Town" "streets" "[LOrganCensus$Street;") (List.mem_of_getElem? (i := 2) rfl)) (fun _ h9 => h9) rfl dX4_setTaste_22 ?_
  refine lv_iload_n hx hb dX4_setTaste_25 rfl (lv_at hl 1 rfl) ?_
  refine o_aald (k := oN x) (C := RX2) hx hb hK hP (1 + 67 * 0 + (1)) 1 (cx_SA G (z3 α β γ) (show 0 < 2 by decide)) rfl (oIn_x h1) (by omega) (by decide) rfl dX4_setTaste_26 ?_
  refine va_get (D := G.1) (ci := 4) (v := .ref (ta G 0 (5 + 4 * (oN x)))) (C := RX2) (T := TX2) (N := 6) hx hb hts (fun w9 h9 => List.mem_cons_of_mem _ (List.mem_append_left _ (List.mem_append_left _ (List.mem_append_right _ (h9))))) hown hK hP (1 + 67 * 0 + (3 + 4 * (oN x))) (cx_S G (z3 α β γ) (show 0 < 2 by decide) (by omega)) rfl 1 (by decide) (hts (.fieldLink RX4 63 "OrganCensus$Street" "tastes" "[I") (List.mem_of_getElem? (i := 3) rfl)) (fun _ h9 => h9) rfl dX4_setTaste_27 ?_
  refine lv_astore (lv' := [(4, .ref (ta G 0 (5 + 4 * (oN x)))), (0, .ref (G.2.1 0)), (1, .int x), (2, .int y), (3, .int z)]) hx hb dX4_setTaste_30 hl (by decide) rfl (fun ls hl => ?_)
  refine lv_aload hx hb dX4_setTaste_32 (lv_at hl 0 rfl) ?_
  refine lv_iload_n hx hb dX4_setTaste_34 rfl (lv_at hl 3 rfl) ?_
  refine o_iald (k := oN y) hx hb hK hP (1 + 67 * 0 + (5 + 4 * (oN x))) 0 (cx_St G (z3 α β γ) (show 0 < 2 by decide) (by omega)) rfl (oIn_x h2) (by omega) (by decide) dX4_setTaste_35 ?_
  refine lv_istore (lv' := [(5, .int (α 1 (oN x) (oN y))), (4, .ref (ta G 0 (5 + 4 * (oN x)))), (0, .ref (G.2.1 0)), (1, .int x), (2, .int y), (3, .int z)]) hx hb dX4_setTaste_36 hl (by decide) rfl (fun ls hl => ?_)
  refine lv_aload hx hb dX4_setTaste_38 (lv_at hl 1 rfl) ?_
  refine lv_iload_n hx hb dX4_setTaste_40 rfl (lv_at hl 4 rfl) ?_
  refine lv_iload_n hx hb dX4_setTaste_41 rfl (lv_at hl 5 rfl) ?_
  refine o_iast (k := oN y) hx hb hK hP (cw_D G _ hI) hS (1 + 67 * 0 + (5 + 4 * (oN x))) 0 (cx_St G (z3 α β γ) (show 0 < 2 by decide) (by omega)) rfl (oIn_x h2) (by omega) (by decide) dX4_setTaste_42 (fun H locs hP hD hS => ?_)
  have hP : va_P G.1 vwCl (cw G (z3 (su α 1 (oN x) (oN y) z) β γ)) H := by rw [← (cu_z0 (a := α) (b := β) (c := γ) (τ' := su α 1 (oN x) (oN y) z) (cu_S1 G (z3 α β γ) (show 0 < 2 by decide) (by omega) (oN y) z))]; exact hP
  clear hD
  refine lv_iload hx hb dX4_setTaste_43 (lv_at hl 0 rfl) ?_
  exact o_iretM hx hb hr hlocks hS dX4_setTaste_45 (hP) (rfl)
set_option maxHeartbeats 4000000 in
set_option maxRecDepth 100000 in
theorem m_X4_street (l : Launch) (G : oG) (α β γ : oT) (nS : Nat) (nO : Nat) (nH : Nat) (hz : oOK α nS nO nH) (x : Int32) (y : Int32) (h1 : oIn x nS = true) (h2 : oIn y 8 = true) : Met l yX4_street wsX4_street ({ frames := 5, cells := 0, slots := 0, locals := 115 } : Room) (va_Pc [.ref (G.2.1 0), .int x, .int y] (PW G (cw G (z3 α β γ)))) (oR (some (.int (oSFact α nO nH (oN x) (oN y))))) 0 0 (fun _ => False) := by
  refine o_body (cc := cX4_street) (by decide +kernel) rfl (Nat.le_of_ble_eq_true rfl) ?_
  intro p e s m below meth c ls hx hb hml hr hlocks hown hts hP hK hN hl
  have hown : s.vm.findClass RX4 = some m.cls := hown
  have hl : lv_has ls 3 [(0, .ref (G.2.1 0)), (1, .int x), (2, .int y)] := hl
  obtain ⟨hz1, hz2, hz3, hz4, hz5, hz6, hz7⟩ := id hz
  have n1 := oIn_lt (by omega) h1
  have n2 := oIn_lt (by omega) h2
  refine lv_aload_n hx hb dX4_street_0 rfl (lv_at hl 0 rfl) ?_
  refine lv_iload_n hx hb dX4_street_1 rfl (lv_at hl 1 rfl) ?_
  refine o_cVv (q0 := 0) (ci := 6) [.int x] [] ⟨hx, hb, hml, hown, hts⟩ (m_X4_checkStreet l G α β γ nS nO nH hz x (h1)) (cwV 1 hts gX4_street_X4_checkStreet rfl rfl rfl (by decide +kernel) ⟨Nat.le_of_ble_eq_true rfl, Nat.le_of_ble_eq_true rfl⟩) hK hN hP rfl rfl (cx_C G (z3 α β γ)) rfl hl.1 rfl (Nat.le_of_ble_eq_true rfl) dX4_street_2 ⟨Nat.zero_le _, Nat.zero_le _⟩ ?_
  refine lv_iload_n hx hb dX4_street_5 rfl (lv_at hl 2 rfl) ?_
  refine lv_bipush (v := 8) hx hb dX4_street_6 (by decide) ?_
  refine o_cSv [.int y, .int 8] [] ⟨hx, hb, hml, hown, hts⟩ (m_X4_checkIndex l G α β γ y 8 8 ((by decide)) (by omega) (h2)) (va_cwS 2 hts gX4_street_X4_checkIndex rfl rfl rfl (by decide +kernel) ⟨Nat.le_of_ble_eq_true rfl, Nat.le_of_ble_eq_true rfl⟩) hK hN hP rfl hl.1 rfl (Nat.le_of_ble_eq_true rfl) dX4_street_8 ⟨Nat.zero_le _, Nat.zero_le _⟩ ?_
  refine lv_aload_n hx hb dX4_street_11 rfl (lv_at hl 0 rfl) ?_
  refine va_get (D := G.1) (ci := 6) (v := .ref (ta G 0 (0))) (C := RX4) (T := TX4) (N := 3) hx hb hts (fun w9 h9 => List.mem_cons_of_mem _ (List.mem_append_left _ (List.mem_append_left _ (List.mem_append_left _ (List.mem_append_left _ (List.mem_append_right _ (h9))))))) hown hK hP (0) (cx_C G (z3 α β γ)) rfl 0 (by decide) (hts (.fieldLink RX4 10 "OrganCensus" "town" "LOrganCensus$Town;") (List.mem_of_getElem? (i := 1) rfl)) (fun _ h9 => h9) rfl dX4_street_12 ?_
  refine lv_iload_n hx hb dX4_street_15 rfl (lv_at hl 1 rfl) ?_
  refine lv_iload_n hx hb dX4_street_16 rfl (lv_at hl 2 rfl) ?_
  have hP : va_P G.1 vwCl (tw G (z3 α β γ) 0 α) s.heap := by rw [tz0]; exact hP
  refine o_cVi (q0 := 1 + 67 * 0 + (0)) (ci := 5) [.int x, .int y] [] ⟨hx, hb, hml, hown, hts⟩ (m_X3_streetFact l G (z3 α β γ) (show 0 < 2 by decide) α nS nO nH hz (oN x) x ((oIn_x h1)) (by omega) (oN y) y ((oIn_x h2)) (by omega)) (cwV 2 hts gX4_street_X3_streetFact rfl rfl rfl (by decide +kernel) ⟨Nat.le_of_ble_eq_true rfl, Nat.le_of_ble_eq_true rfl⟩) hK hN hP rfl rfl (tw_T G (z3 α β γ) (show 0 < 2 by decide) α) rfl hl.1 rfl (Nat.le_of_ble_eq_true rfl) dX4_street_17 ⟨Nat.zero_le _, Nat.zero_le _⟩ ?_
  have hP : va_P G.1 vwCl (cw G (z3 α β γ)) s.heap := by rw [tz0] at hP; exact hP
  exact o_iretR hx hb hr hlocks dX4_street_20 (rfl)
set_option maxHeartbeats 4000000 in
set_option maxRecDepth 100000 in
theorem m_X4_ear (l : Launch) (G : oG) (α β γ : oT) (nS : Nat) (nO : Nat) (nH : Nat) (hz : oOK α nS nO nH) (x : Int32) (y : Int32) (bb : Bool) (h1 : oIn x nS = true) (h2 : oIn y 6 = true) : Met l yX4_ear wsX4_ear ({ frames := 2, cells := 0, slots := 0, locals := 42 } : Room) (va_Pc [.ref (G.2.1 0), .int x, .int y, .int (bI bb)] (PW G (cw G (z3 α β γ)))) (oR (some (.int (if bb = true then α 1 (oN x) (oN y) else α 2 (oN x) (oN y))))) 0 0 (fun _ => False) := by
  refine o_body (cc := cX4_ear) (by decide +kernel) rfl (Nat.le_of_ble_eq_true rfl) ?_
  intro p e s m below meth c ls hx hb hml hr hlocks hown hts hP hK hN hl
  have hown : s.vm.findClass RX4 = some m.cls := hown
  have hl : lv_has ls 5 [(0, .ref (G.2.1 0)), (1, .int x), (2, .int y), (3, .int (bI bb))] := hl
  obtain ⟨hz1, hz2, hz3, hz4, hz5, hz6, hz7⟩ := id hz
  have n1 := oIn_lt (by omega) h1
  have n2 := oIn_lt (by omega) h2
  refine lv_aload_n hx hb dX4_ear_0 rfl (lv_at hl 0 rfl) ?_
  refine lv_iload_n hx hb dX4_ear_1 rfl (lv_at hl 1 rfl) ?_
  refine o_cVv (q0 := 0) (ci := 6) [.int x] [] ⟨hx, hb, hml, hown, hts⟩ (m_X4_checkStreet l G α β γ nS nO nH hz x (h1)) (cwV 1 hts gX4_ear_X4_checkStreet rfl rfl rfl (by decide +kernel) ⟨Nat.le_of_ble_eq_true rfl, Nat.le_of_ble_eq_true rfl⟩) hK hN hP rfl rfl (cx_C G (z3 α β γ)) rfl hl.1 rfl (Nat.le_of_ble_eq_true rfl) dX4_ear_2 ⟨Nat.zero_le _, Nat.zero_le _⟩ ?_
  refine lv_iload_n hx hb dX4_ear_5 rfl (lv_at hl 2 rfl) ?_
  refine lv_bipush (v := 6) hx hb dX4_ear_6 (by decide) ?_
  refine o_cSv [.int y, .int 6] [] ⟨hx, hb, hml, hown, hts⟩ (m_X4_checkIndex l G α β γ y 6 6 ((by decide)) (by omega) (h2)) (va_cwS 2 hts gX4_ear_X4_checkIndex rfl rfl rfl (by decide +kernel) ⟨Nat.le_of_ble_eq_true rfl, Nat.le_of_ble_eq_true rfl⟩) hK hN hP rfl hl.1 rfl (Nat.le_of_ble_eq_true rfl) dX4_ear_8 ⟨Nat.zero_le _, Nat.zero_le _⟩ ?_
  refine lv_aload_n hx hb dX4_ear_11 rfl (lv_at hl 0 rfl) ?_
  refine va_get (D := G.1) (ci := 6) (v := .ref (ta G 0 (0))) (C := RX4) (T := TX4) (N := 3) hx hb hts (fun w9 h9 => List.mem_cons_of_mem _ (List.mem_append_left _ (List.mem_append_left _ (List.mem_append_left _ (List.mem_append_right _ (h9)))))) hown hK hP (0) (cx_C G (z3 α β γ)) rfl 0 (by decide) (hts (.fieldLink RX4 10 "OrganCensus" "town" "LOrganCensus$Town;") (List.mem_of_getElem? (i := 1) rfl)) (fun _ h9 => h9) rfl dX4_ear_12 ?_
  refine va_get (D := G.1) (ci := 5) (v := .ref (ta G 0 (1))) (C := RX3) (T := TX3) (N := 5) hx hb hts (fun w9 h9 => List.mem_cons_of_mem _ (List.mem_append_left _ (List.mem_append_left _ (List.mem_append_right _ (h9))))) hown hK hP (1 + 67 * 0 + (0)) (cx_T G (z3 α β γ) (show 0 < 2 by decide)) rfl 0 (by decide) (hts (.fieldLink RX4 53 "OrganCensus$Town" "streets" "[LOrganCensus$Street;") (List.mem_of_getElem? (i := 2) rfl)) (fun _ h9 => h9) rfl dX4_ear_15 ?_
  refine lv_iload_n hx hb dX4_ear_18 rfl (lv_at hl 1 rfl) ?_
  refine o_aald (k := oN x) (C := RX2) hx hb hK hP (1 + 67 * 0 + (1)) 1 (cx_SA G (z3 α β γ) (show 0 < 2 by decide)) rfl (oIn_x h1) (by omega) (by decide) rfl dX4_ear_19 ?_
  refine lv_astore (lv' := [(4, .ref (ta G 0 (3 + 4 * (oN x)))), (0, .ref (G.2.1 0)), (1, .int x), (2, .int y), (3, .int (bI bb))]) hx hb dX4_ear_20 hl (by decide) rfl (fun ls hl => ?_)
  refine lv_iload_n hx hb dX4_ear_22 rfl (lv_at hl 4 rfl) ?_
  refine lv_if_eq (tgt := 36) hx hb dX4_ear_23 (by decide) (fun c23 => ?_) (fun c23 => ?_)
  · have c23 := bI_eq.mp c23
    refine lv_aload hx hb dX4_ear_36 (lv_at hl 0 rfl) ?_
    refine va_get (D := G.1) (ci := 4) (v := .ref (ta G 0 (6 + 4 * (oN x)))) (C := RX2) (T := TX2) (N := 6) hx hb hts (fun w9 h9 => List.mem_cons_of_mem _ (List.mem_append_left _ (List.mem_append_right _ (h9)))) hown hK hP (1 + 67 * 0 + (3 + 4 * (oN x))) (cx_S G (z3 α β γ) (show 0 < 2 by decide) (by omega)) rfl 2 (by decide) (hts (.fieldLink RX4 70 "OrganCensus$Street" "weariness" "[I") (List.mem_of_getElem? (i := 4) rfl)) (fun _ h9 => h9) rfl dX4_ear_38 ?_
    refine lv_iload_n hx hb dX4_ear_41 rfl (lv_at hl 3 rfl) ?_
    refine o_iald (k := oN y) hx hb hK hP (1 + 67 * 0 + (6 + 4 * (oN x))) 0 (cx_Sw G (z3 α β γ) (show 0 < 2 by decide) (by omega)) rfl (oIn_x h2) (by omega) (by decide) dX4_ear_42 ?_
    exact o_iretR hx hb hr hlocks dX4_ear_43 (by simp [c23]; try rfl)
  · have c23 := bI_ne.mp c23
    refine lv_aload hx hb dX4_ear_26 (lv_at hl 0 rfl) ?_
    refine va_get (D := G.1) (ci := 4) (v := .ref (ta G 0 (5 + 4 * (oN x)))) (C := RX2) (T := TX2) (N := 6) hx hb hts (fun w9 h9 => List.mem_cons_of_mem _ (List.mem_append_left _ (List.mem_append_right _ (h9)))) hown hK hP (1 + 67 * 0 + (3 + 4 * (oN x))) (cx_S G (z3 α β γ) (show 0 < 2 by decide) (by omega)) rfl 1 (by decide) (hts (.fieldLink RX4 63 "OrganCensus$Street" "tastes" "[I") (List.mem_of_getElem? (i := 3) rfl)) (fun _ h9 => h9) rfl dX4_ear_28 ?_
    refine lv_iload_n hx hb dX4_ear_31 rfl (lv_at hl 3 rfl) ?_
    refine o_iald (k := oN y) hx hb hK hP (1 + 67 * 0 + (5 + 4 * (oN x))) 0 (cx_St G (z3 α β γ) (show 0 < 2 by decide) (by omega)) rfl (oIn_x h2) (by omega) (by decide) dX4_ear_32 ?_
    refine lv_goto (tgt := 43) hx hb dX4_ear_33 (by decide) ?_
    exact o_iretR hx hb hr hlocks dX4_ear_43 (by simp [c23]; try rfl)
set_option maxHeartbeats 4000000 in
set_option maxRecDepth 100000 in
theorem m_X4_addOrgan (l : Launch) (G : oG) (hI : wl_I G.2.1 137) (α β γ : oT) (nS : Nat) (nO : Nat) (nH : Nat) (hz : oOK α nS nO nH) (x : Int32) (y : Int32) (z : Int32) (h1 : oIn x nS = true) (h2 : oIn y (oNp α (oN x)) = true) (h3 : oRg z 1 9 = true) (h4 : nO < 8) : Met l yX4_addOrgan wsX4_addOrgan ({ frames := 3, cells := 0, slots := 0, locals := 70 } : Room) (va_Pc [.ref (G.2.1 0), .int x, .int y, .int z] (PW G (cw G (z3 α β γ)))) (oQ (some (.int (nI nO))) (fun H9 => va_P G.1 vwCl (cw G (z3 (su (oPutB (su (oMove α nO x y 0) 13 nO 0 z) nO 1) 18 0 1 (nI (nO + 1))) β γ)) H9) (oA G)) 0 0 (oA G) := by
  refine o_body (cc := cX4_addOrgan) (by decide +kernel) rfl (Nat.le_of_ble_eq_true rfl) ?_
  intro p e s m below meth c ls hx hb hml hr hlocks hown hts hP hK hN hl
  have hown : s.vm.findClass RX4 = some m.cls := hown
  have hl : lv_has ls 4 [(0, .ref (G.2.1 0)), (1, .int x), (2, .int y), (3, .int z)] := hl
  have hS : va_S (oA G) s.heap s.heap [] := va_S.rf
  obtain ⟨hz1, hz2, hz3, hz4, hz5, hz6, hz7⟩ := id hz
  refine lv_aload_n hx hb dX4_addOrgan_0 rfl (lv_at hl 0 rfl) ?_
  refine lv_iload_n hx hb dX4_addOrgan_1 rfl (lv_at hl 1 rfl) ?_
  refine lv_iload_n hx hb dX4_addOrgan_2 rfl (lv_at hl 2 rfl) ?_
  refine o_cVv (q0 := 0) (ci := 6) [.int x, .int y] [] ⟨hx, hb, hml, hown, hts⟩ (m_X4_checkPitch l G α β γ nS nO nH hz x y (h1) (h2)) (cwV 2 hts gX4_addOrgan_X4_checkPitch rfl rfl rfl (by decide +kernel) ⟨Nat.le_of_ble_eq_true rfl, Nat.le_of_ble_eq_true rfl⟩) hK hN hP rfl rfl (cx_C G (z3 α β γ)) rfl hl.1 rfl (Nat.le_of_ble_eq_true rfl) dX4_addOrgan_3 ⟨Nat.zero_le _, Nat.zero_le _⟩ ?_
  refine lv_iload_n hx hb dX4_addOrgan_6 rfl (lv_at hl 3 rfl) ?_
  refine lv_iconst (v := 1) hx hb dX4_addOrgan_7 (by decide) ?_
  refine lv_bipush (v := 9) hx hb dX4_addOrgan_8 (by decide) ?_
  refine o_cSv [.int z, .int 1, .int 9] [] ⟨hx, hb, hml, hown, hts⟩ (m_X4_checkRange l G α β γ z 1 9 (h3)) (va_cwS 3 hts gX4_addOrgan_X4_checkRange rfl rfl rfl (by decide +kernel) ⟨Nat.le_of_ble_eq_true rfl, Nat.le_of_ble_eq_true rfl⟩) hK hN hP rfl hl.1 rfl (Nat.le_of_ble_eq_true rfl) dX4_addOrgan_10 ⟨Nat.zero_le _, Nat.zero_le _⟩ ?_
  refine lv_aload_n hx hb dX4_addOrgan_13 rfl (lv_at hl 0 rfl) ?_
  refine va_get (D := G.1) (ci := 6) (v := .ref (ta G 0 (0))) (C := RX4) (T := TX4) (N := 3) hx hb hts (fun w9 h9 => List.mem_cons_of_mem _ (List.mem_append_left _ (List.mem_append_left _ (List.mem_append_left _ (List.mem_append_left _ (List.mem_append_left _ (List.mem_append_left _ (List.mem_append_right _ (h9))))))))) hown hK hP (0) (cx_C G (z3 α β γ)) rfl 0 (by decide) (hts (.fieldLink RX4 10 "OrganCensus" "town" "LOrganCensus$Town;") (List.mem_of_getElem? (i := 3) rfl)) (fun _ h9 => h9) rfl dX4_addOrgan_14 ?_
  refine va_get (D := G.1) (ci := 5) (v := .int (α 18 0 1)) (C := RX3) (T := TX3) (N := 5) hx hb hts (fun w9 h9 => List.mem_cons_of_mem _ (List.mem_append_left _ (List.mem_append_left _ (List.mem_append_left _ (List.mem_append_left _ (List.mem_append_left _ (List.mem_append_right _ (h9)))))))) hown hK hP (1 + 67 * 0 + (0)) (cx_T G (z3 α β γ) (show 0 < 2 by decide)) rfl 3 (by decide) (hts (.fieldLink RX4 76 "OrganCensus$Town" "organCount" "I") (List.mem_of_getElem? (i := 4) rfl)) (fun _ h9 => h9) rfl dX4_addOrgan_17 ?_
  refine lv_bipush (v := 8) hx hb dX4_addOrgan_20 (by decide) ?_
  refine lv_icmp_lt (tgt := 35) hx hb dX4_addOrgan_22 (by decide) (fun c22 => ?_) (fun c22 => ?_)
  · have n22 := (o_nlt (a := nO) (b := 8) hz.2.2.1 (by decide) (by omega) (by omega)).mp c22
    refine lv_aload_n hx hb dX4_addOrgan_35 rfl (lv_at hl 0 rfl) ?_
    refine va_get (D := G.1) (ci := 6) (v := .ref (ta G 0 (0))) (C := RX4) (T := TX4) (N := 3) hx hb hts (fun w9 h9 => List.mem_cons_of_mem _ (List.mem_append_left _ (List.mem_append_left _ (List.mem_append_left _ (List.mem_append_left _ (List.mem_append_left _ (List.mem_append_left _ (List.mem_append_right _ (h9))))))))) hown hK hP (0) (cx_C G (z3 α β γ)) rfl 0 (by decide) (hts (.fieldLink RX4 10 "OrganCensus" "town" "LOrganCensus$Town;") (List.mem_of_getElem? (i := 3) rfl)) (fun _ h9 => h9) rfl dX4_addOrgan_36 ?_
    refine lv_iload_n hx hb dX4_addOrgan_39 rfl (lv_at hl 1 rfl) ?_
    refine lv_iload_n hx hb dX4_addOrgan_40 rfl (lv_at hl 2 rfl) ?_
    refine lv_iload_n hx hb dX4_addOrgan_41 rfl (lv_at hl 3 rfl) ?_
    have hP : va_P G.1 vwCl (tw G (z3 α β γ) 0 α) s.heap := by rw [tz0]; exact hP
    refine o_cVmi (q0 := 1 + 67 * 0 + (0)) (ci := 5) [.int x, .int y, .int z] [] ⟨hx, hb, hml, hown, hts⟩ (m_X3_newOrgan l G (z3 α β γ) (show 0 < 2 by decide) hI α nS nO nH hz (by omega) x y z) (cwV 3 hts gX4_addOrgan_X3_newOrgan rfl rfl rfl (by decide +kernel) ⟨Nat.le_of_ble_eq_true rfl, Nat.le_of_ble_eq_true rfl⟩) hK hN hP hS rfl rfl (tw_T G (z3 α β γ) (show 0 < 2 by decide) α) rfl hl.1 rfl (Nat.le_of_ble_eq_true rfl) dX4_addOrgan_42 ⟨Nat.zero_le _, Nat.zero_le _⟩ (fun H locs hP hS => ?_)
    have hP : va_P G.1 vwCl (cw G (z3 (su (oPutB (su (oMove α nO x y 0) 13 nO 0 z) nO 1) 18 0 1 (nI (nO + 1))) β γ)) H := by rw [tz0] at hP; exact hP
    exact o_iretM hx hb hr hlocks hS dX4_addOrgan_45 (hP) (rfl)
  · have n22 := (mt (o_nlt (a := nO) (b := 8) hz.2.2.1 (by decide) (by omega) (by omega)).mpr) c22; omega
set_option maxHeartbeats 4000000 in
set_option maxRecDepth 100000 in
theorem m_X4_isBarrel (l : Launch) (G : oG) (wd : va_W) (x : Int32) : Met l yX4_isBarrel wsX4_isBarrel ({ frames := 0, cells := 0, slots := 0, locals := 0 } : Room) (va_Pc [.int x] (PW G wd)) (oR (some (.int (bI (oBar x))))) 0 0 (fun _ => False) := by
  refine o_body (cc := cX4_isBarrel) (by decide +kernel) rfl (Nat.le_of_ble_eq_true rfl) ?_
  intro p e s m below meth c ls hx hb hml hr hlocks hown hts hP hK hN hl
  have hown : s.vm.findClass RX4 = some m.cls := hown
  have hl : lv_has ls 4 [(0, .int x)] := hl
  refine lv_iconst (v := 0) hx hb dX4_isBarrel_0 (by decide) ?_
  refine lv_istore_n (lv' := [(1, .int 0), (0, .int x)]) hx hb dX4_isBarrel_1 rfl hl (by decide) rfl (fun ls hl => ?_)
  refine lv_iload_n hx hb dX4_isBarrel_2 rfl (lv_at hl 1 rfl) ?_
  refine lv_istore_n (lv' := [(2, .int x), (1, .int 0), (0, .int x)]) hx hb dX4_isBarrel_3 rfl hl (by decide) rfl (fun ls hl => ?_)
  have lp4 : ∀ (d4 k : Nat), k + d4 = 40 → ∀ x4_1 : Int32, x4_1 = (nI k) → ∀ x4_2 : Int32, x4_2 = (oBr x k) → (oBk x k) → ∀ ls : Array Slot, lv_has ls 4 [(0, .int x), (1, .int x4_1), (2, .int x4_2)] → W p l e ({ frames := 0, cells := 0, slots := 0, locals := 0 } : Room) s m ([.int x] : List Value).toArray below meth c s.heap [] 0 0 (MQ below (oR (some (.int (bI (oBar x))))) ([.int x] : List Value).toArray s 0 0 (fun _ => False)) (F0 m 4 ls []) := by
    intro d4
    induction d4 with
    | zero =>
      intro k hk4 x4_1 e4_1 x4_2 e4_2 hq ls hl
      subst e4_1
      subst e4_2
      have hk4 : k = 40 := by omega
      subst hk4
      have hF : False := oBk_end hq
      refine lv_iload_n hx hb dX4_isBarrel_4 rfl (lv_at hl 2 rfl) ?_
      refine lv_if_le (tgt := 37) hx hb dX4_isBarrel_5 (by decide) (fun c5 => ?_) (fun c5 => ?_)
      · exact hF.elim
      · exact hF.elim
    | succ d4 ih4 =>
      intro k hk4 x4_1 e4_1 x4_2 e4_2 hq ls hl
      subst e4_1
      subst e4_2
      have hj4 : k < 40 := by omega
      refine lv_iload_n hx hb dX4_isBarrel_4 rfl (lv_at hl 2 rfl) ?_
      refine lv_if_le (tgt := 37) hx hb dX4_isBarrel_5 (by decide) (fun c5 => ?_) (fun c5 => ?_)
      · refine lv_iload_n hx hb dX4_isBarrel_37 rfl (lv_at hl 1 rfl) ?_
        refine lv_iconst (v := 1) hx hb dX4_isBarrel_38 (by decide) ?_
        refine lv_icmp_lt (tgt := 52) hx hb dX4_isBarrel_39 (by decide) (fun c39 => ?_) (fun c39 => ?_)
        · have n39 := (o_nlt (a := k) (b := 1) rfl (by decide) (by omega) (by omega)).mp c39
          refine lv_iconst (v := 0) hx hb dX4_isBarrel_52 (by decide) ?_
          exact o_zretR hx hb hr hlocks dX4_isBarrel_53 (by first | exact Or.inl rfl | exact Or.inr rfl) (by first | exact oBk_f hq c5 c15 | exact oBk_g hq c5 c21 | exact oBk_a hq c5 c39 c45 | exact oBk_b hq c5 c39 | exact oBk_c hq c5 c45)
        · have n39 := (mt (o_nlt (a := k) (b := 1) rfl (by decide) (by omega) (by omega)).mpr) c39
          refine lv_iload_n hx hb dX4_isBarrel_42 rfl (lv_at hl 1 rfl) ?_
          refine lv_bipush (v := 8) hx hb dX4_isBarrel_43 (by decide) ?_
          refine lv_icmp_gt (tgt := 52) hx hb dX4_isBarrel_45 (by decide) (fun c45 => ?_) (fun c45 => ?_)
          · have n45 := (o_nlt (a := 8) (b := k) (by decide) rfl (by omega) (by omega)).mp c45
            refine lv_iconst (v := 0) hx hb dX4_isBarrel_52 (by decide) ?_
            exact o_zretR hx hb hr hlocks dX4_isBarrel_53 (by first | exact Or.inl rfl | exact Or.inr rfl) (by first | exact oBk_f hq c5 c15 | exact oBk_g hq c5 c21 | exact oBk_a hq c5 c39 c45 | exact oBk_b hq c5 c39 | exact oBk_c hq c5 c45)
          · have n45 := (mt (o_nlt (a := 8) (b := k) (by decide) rfl (by omega) (by omega)).mpr) c45
            refine lv_iconst (v := 1) hx hb dX4_isBarrel_48 (by decide) ?_
            refine lv_goto (tgt := 53) hx hb dX4_isBarrel_49 (by decide) ?_
            exact o_zretR hx hb hr hlocks dX4_isBarrel_53 (by first | exact Or.inl rfl | exact Or.inr rfl) (by first | exact oBk_f hq c5 c15 | exact oBk_g hq c5 c21 | exact oBk_a hq c5 c39 c45 | exact oBk_b hq c5 c39 | exact oBk_c hq c5 c45)
      · refine lv_iload_n hx hb dX4_isBarrel_8 rfl (lv_at hl 2 rfl) ?_
        refine lv_bipush (v := 10) hx hb dX4_isBarrel_9 (by decide) ?_
        refine o_irem hx hb dX4_isBarrel_11 (by decide) ?_
        refine lv_istore_n (lv' := [(3, .int (o_rem (oBr x k) 10)), (0, .int x), (1, .int (nI k)), (2, .int (oBr x k))]) hx hb dX4_isBarrel_12 rfl hl (by decide) rfl (fun ls hl => ?_)
        refine lv_iload_n hx hb dX4_isBarrel_13 rfl (lv_at hl 0 rfl) ?_
        refine lv_iconst (v := 1) hx hb dX4_isBarrel_14 (by decide) ?_
        refine lv_icmp_lt (tgt := 24) hx hb dX4_isBarrel_15 (by decide) (fun c15 => ?_) (fun c15 => ?_)
        · refine lv_iconst (v := 0) hx hb dX4_isBarrel_24 (by decide) ?_
          exact o_zretR hx hb hr hlocks dX4_isBarrel_25 (by first | exact Or.inl rfl | exact Or.inr rfl) (by first | exact oBk_f hq c5 c15 | exact oBk_g hq c5 c21 | exact oBk_a hq c5 c39 c45 | exact oBk_b hq c5 c39 | exact oBk_c hq c5 c45)
        · refine lv_iload_n hx hb dX4_isBarrel_18 rfl (lv_at hl 0 rfl) ?_
          refine lv_bipush (v := 6) hx hb dX4_isBarrel_19 (by decide) ?_
          refine lv_icmp_le (tgt := 26) hx hb dX4_isBarrel_21 (by decide) (fun c21 => ?_) (fun c21 => ?_)
          · refine lv_iinc (v := nI (k + 1)) (lv' := [(1, .int (nI (k + 1))), (3, .int (o_rem (oBr x k) 10)), (0, .int x), (2, .int (oBr x k))]) hx hb dX4_isBarrel_26 hl (k := 2) rfl (nI_1 k) (by decide) rfl (fun ls hl => ?_)
            refine lv_iload_n hx hb dX4_isBarrel_29 rfl (lv_at hl 3 rfl) ?_
            refine lv_bipush (v := 10) hx hb dX4_isBarrel_30 (by decide) ?_
            refine lv_idiv hx hb dX4_isBarrel_32 (by decide) ?_
            refine lv_istore_n (lv' := [(2, .int ((oBr x k) / 10)), (1, .int (nI (k + 1))), (3, .int (o_rem (oBr x k) 10)), (0, .int x)]) hx hb dX4_isBarrel_33 rfl hl (by decide) rfl (fun ls hl => ?_)
            refine lv_goto (tgt := 4) hx hb dX4_isBarrel_34 (by decide) ?_
            exact ih4 (k + 1) (by omega) _ (rfl) _ (rfl) (oBk_s hq c5 c15 c21) ls (lv_sub hl [3, 1, 0] rfl)
          · refine lv_iconst (v := 0) hx hb dX4_isBarrel_24 (by decide) ?_
            exact o_zretR hx hb hr hlocks dX4_isBarrel_25 (by first | exact Or.inl rfl | exact Or.inr rfl) (by first | exact oBk_f hq c5 c15 | exact oBk_g hq c5 c21 | exact oBk_a hq c5 c39 c45 | exact oBk_b hq c5 c39 | exact oBk_c hq c5 c45)
  exact lp4 (40) 0 (by omega) _ (rfl) _ (rfl) (fun j hj => absurd hj (Nat.not_lt_zero j)) ls (lv_sub hl [2, 1, 0] rfl)
set_option maxHeartbeats 4000000 in
set_option maxRecDepth 100000 in
theorem m_X4_setBarrel (l : Launch) (G : oG) (hI : wl_I G.2.1 137) (α β γ : oT) (nS : Nat) (nO : Nat) (nH : Nat) (hz : oOK α nS nO nH) (x : Int32) (y : Int32) (h1 : oIn x nO = true) (h2 : oBar y = true) : Met l yX4_setBarrel wsX4_setBarrel ({ frames := 2, cells := 0, slots := 0, locals := 46 } : Room) (va_Pc [.ref (G.2.1 0), .int x, .int y] (PW G (cw G (z3 α β γ)))) (oQ (some (.int (α 15 (oN x) 0))) (fun H9 => va_P G.1 vwCl (cw G (z3 (oPutB α (oN x) (oN y)) β γ)) H9) (oA G)) 0 0 (oA G) := by
  refine o_body (cc := cX4_setBarrel) (by decide +kernel) rfl (Nat.le_of_ble_eq_true rfl) ?_
  intro p e s m below meth c ls hx hb hml hr hlocks hown hts hP hK hN hl
  have hown : s.vm.findClass RX4 = some m.cls := hown
  have hl : lv_has ls 4 [(0, .ref (G.2.1 0)), (1, .int x), (2, .int y)] := hl
  have hS : va_S (oA G) s.heap s.heap [] := va_S.rf
  obtain ⟨hz1, hz2, hz3, hz4, hz5, hz6, hz7⟩ := id hz
  have n1 := oIn_lt (by omega) h1
  have hv := oBar_iff.mp h2
  refine lv_aload_n hx hb dX4_setBarrel_0 rfl (lv_at hl 0 rfl) ?_
  refine lv_iload_n hx hb dX4_setBarrel_1 rfl (lv_at hl 1 rfl) ?_
  refine o_cVv (q0 := 0) (ci := 6) [.int x] [] ⟨hx, hb, hml, hown, hts⟩ (m_X4_checkOrgan l G α β γ nS nO nH hz x (h1)) (cwV 1 hts gX4_setBarrel_X4_checkOrgan rfl rfl rfl (by decide +kernel) ⟨Nat.le_of_ble_eq_true rfl, Nat.le_of_ble_eq_true rfl⟩) hK hN hP rfl rfl (cx_C G (z3 α β γ)) rfl hl.1 rfl (Nat.le_of_ble_eq_true rfl) dX4_setBarrel_2 ⟨Nat.zero_le _, Nat.zero_le _⟩ ?_
  refine lv_iload_n hx hb dX4_setBarrel_5 rfl (lv_at hl 2 rfl) ?_
  refine o_cSi [.int y] [] ⟨hx, hb, hml, hown, hts⟩ (m_X4_isBarrel l G (cw G (z3 α β γ)) y) (va_cwS 1 hts gX4_setBarrel_X4_isBarrel rfl rfl rfl (by decide +kernel) ⟨Nat.le_of_ble_eq_true rfl, Nat.le_of_ble_eq_true rfl⟩) hK hN hP rfl hl.1 rfl (Nat.le_of_ble_eq_true rfl) dX4_setBarrel_6 ⟨Nat.zero_le _, Nat.zero_le _⟩ ?_
  refine lv_if_ne (tgt := 22) hx hb dX4_setBarrel_9 (by decide) (fun c9 => ?_) (fun c9 => ?_)
  · have c9 := bI_ne.mp c9
    refine lv_aload_n hx hb dX4_setBarrel_22 rfl (lv_at hl 0 rfl) ?_
    refine va_get (D := G.1) (ci := 6) (v := .ref (ta G 0 (0))) (C := RX4) (T := TX4) (N := 3) hx hb hts (fun w9 h9 => List.mem_cons_of_mem _ (List.mem_append_left _ (List.mem_append_left _ (List.mem_append_left _ (List.mem_append_left _ (List.mem_append_right _ (h9))))))) hown hK hP (0) (cx_C G (z3 α β γ)) rfl 0 (by decide) (hts (.fieldLink RX4 10 "OrganCensus" "town" "LOrganCensus$Town;") (List.mem_of_getElem? (i := 3) rfl)) (fun _ h9 => h9) rfl dX4_setBarrel_23 ?_
    refine va_get (D := G.1) (ci := 5) (v := .ref (ta G 0 (2))) (C := RX3) (T := TX3) (N := 5) hx hb hts (fun w9 h9 => List.mem_cons_of_mem _ (List.mem_append_left _ (List.mem_append_left _ (List.mem_append_left _ (List.mem_append_right _ (h9)))))) hown hK hP (1 + 67 * 0 + (0)) (cx_T G (z3 α β γ) (show 0 < 2 by decide)) rfl 1 (by decide) (hts (.fieldLink RX4 97 "OrganCensus$Town" "organs" "[LOrganCensus$Organ;") (List.mem_of_getElem? (i := 4) rfl)) (fun _ h9 => h9) rfl dX4_setBarrel_26 ?_
    refine lv_iload_n hx hb dX4_setBarrel_29 rfl (lv_at hl 1 rfl) ?_
    refine o_aald (k := oN x) (C := RX0) hx hb hK hP (1 + 67 * 0 + (2)) 2 (cx_OA G (z3 α β γ) (show 0 < 2 by decide)) rfl (oIn_x h1) (by omega) (by decide) rfl dX4_setBarrel_30 ?_
    refine va_get (D := G.1) (ci := 2) (v := .int (α 15 (oN x) 0)) (C := RX0) (T := TX0) (N := 12) hx hb hts (fun w9 h9 => List.mem_cons_of_mem _ (List.mem_append_left _ (List.mem_append_left _ (List.mem_append_right _ (h9))))) hown hK hP (1 + 67 * 0 + (27 + 5 * (oN x))) (cx_O G (z3 α β γ) (show 0 < 2 by decide) (by omega)) rfl 9 (by decide) (hts (.fieldLink RX4 101 "OrganCensus$Organ" "barrel" "I") (List.mem_of_getElem? (i := 5) rfl)) (fun _ h9 => h9) rfl dX4_setBarrel_31 ?_
    refine lv_istore_n (lv' := [(3, .int (α 15 (oN x) 0)), (0, .ref (G.2.1 0)), (1, .int x), (2, .int y)]) hx hb dX4_setBarrel_34 rfl hl (by decide) rfl (fun ls hl => ?_)
    refine lv_aload_n hx hb dX4_setBarrel_35 rfl (lv_at hl 1 rfl) ?_
    refine va_get (D := G.1) (ci := 6) (v := .ref (ta G 0 (0))) (C := RX4) (T := TX4) (N := 3) hx hb hts (fun w9 h9 => List.mem_cons_of_mem _ (List.mem_append_left _ (List.mem_append_left _ (List.mem_append_left _ (List.mem_append_left _ (List.mem_append_right _ (h9))))))) hown hK hP (0) (cx_C G (z3 α β γ)) rfl 0 (by decide) (hts (.fieldLink RX4 10 "OrganCensus" "town" "LOrganCensus$Town;") (List.mem_of_getElem? (i := 3) rfl)) (fun _ h9 => h9) rfl dX4_setBarrel_36 ?_
    refine va_get (D := G.1) (ci := 5) (v := .ref (ta G 0 (2))) (C := RX3) (T := TX3) (N := 5) hx hb hts (fun w9 h9 => List.mem_cons_of_mem _ (List.mem_append_left _ (List.mem_append_left _ (List.mem_append_left _ (List.mem_append_right _ (h9)))))) hown hK hP (1 + 67 * 0 + (0)) (cx_T G (z3 α β γ) (show 0 < 2 by decide)) rfl 1 (by decide) (hts (.fieldLink RX4 97 "OrganCensus$Town" "organs" "[LOrganCensus$Organ;") (List.mem_of_getElem? (i := 4) rfl)) (fun _ h9 => h9) rfl dX4_setBarrel_39 ?_
    refine lv_iload_n hx hb dX4_setBarrel_42 rfl (lv_at hl 2 rfl) ?_
    refine o_aald (k := oN x) (C := RX0) hx hb hK hP (1 + 67 * 0 + (2)) 2 (cx_OA G (z3 α β γ) (show 0 < 2 by decide)) rfl (oIn_x h1) (by omega) (by decide) rfl dX4_setBarrel_43 ?_
    refine lv_iload_n hx hb dX4_setBarrel_44 rfl (lv_at hl 3 rfl) ?_
    have hP : va_P G.1 vwCl (tw G (z3 α β γ) 0 α) s.heap := by rw [tz0]; exact hP
    refine o_cVmv (q0 := 1 + 67 * 0 + (27 + 5 * (oN x))) (ci := 2) [.int y] [] ⟨hx, hb, hml, hown, hts⟩ (m_X0_putBarrel l G (z3 α β γ) (show 0 < 2 by decide) hI α (oN x) (by omega) (oN y) y ((oBar_x h2)) (by assumption)) (cwV 1 hts gX4_setBarrel_X0_putBarrel rfl rfl rfl (by decide +kernel) ⟨Nat.le_of_ble_eq_true rfl, Nat.le_of_ble_eq_true rfl⟩) hK hN hP hS rfl rfl (tw_O G (z3 α β γ) (show 0 < 2 by decide) α (by omega)) rfl hl.1 rfl (Nat.le_of_ble_eq_true rfl) dX4_setBarrel_45 ⟨Nat.zero_le _, Nat.zero_le _⟩ (fun H locs hP hS => ?_)
    have hP : va_P G.1 vwCl (cw G (z3 (oPutB α (oN x) (oN y)) β γ)) H := by rw [tz0] at hP; exact hP
    refine lv_iload_n hx hb dX4_setBarrel_48 rfl (lv_at hl 0 rfl) ?_
    exact o_iretM hx hb hr hlocks hS dX4_setBarrel_49 (hP) (rfl)
  · have c9 := bI_eq.mp c9; exact absurd (h2.symm.trans c9) (by decide)
set_option maxHeartbeats 4000000 in
set_option maxRecDepth 100000 in
theorem m_X4_send (l : Launch) (G : oG) (hI : wl_I G.2.1 137) (α β γ : oT) (nS : Nat) (nO : Nat) (nH : Nat) (hz : oOK α nS nO nH) (x : Int32) (y : Int32) (z : Int32) (h1 : oIn x nO = true) (h2 : oIn y nS = true) (h3 : oIn z (oNp α (oN y)) = true) (h4 : α 9 (oN x) (oN y) ≤ 0) : Met l yX4_send wsX4_send ({ frames := 3, cells := 0, slots := 0, locals := 64 } : Room) (va_Pc [.ref (G.2.1 0), .int x, .int y, .int z] (PW G (cw G (z3 α β γ)))) (oQ (some (.int (oTo α (oN x) y z))) (fun H9 => va_P G.1 vwCl (cw G (z3 (oMove α (oN x) y z (oTo α (oN x) y z)) β γ)) H9) (oA G)) 0 0 (oA G) := by
  refine o_body (cc := cX4_send) (by decide +kernel) rfl (Nat.le_of_ble_eq_true rfl) ?_
  intro p e s m below meth c ls hx hb hml hr hlocks hown hts hP hK hN hl
  have hown : s.vm.findClass RX4 = some m.cls := hown
  have hl : lv_has ls 6 [(0, .ref (G.2.1 0)), (1, .int x), (2, .int y), (3, .int z)] := hl
  have hS : va_S (oA G) s.heap s.heap [] := va_S.rf
  obtain ⟨hz1, hz2, hz3, hz4, hz5, hz6, hz7⟩ := id hz
  have n1 := oIn_lt (by omega) h1
  have n2 := oIn_lt (by omega) h2
  refine lv_aload_n hx hb dX4_send_0 rfl (lv_at hl 0 rfl) ?_
  refine lv_iload_n hx hb dX4_send_1 rfl (lv_at hl 1 rfl) ?_
  refine o_cVv (q0 := 0) (ci := 6) [.int x] [] ⟨hx, hb, hml, hown, hts⟩ (m_X4_checkOrgan l G α β γ nS nO nH hz x (h1)) (cwV 1 hts gX4_send_X4_checkOrgan rfl rfl rfl (by decide +kernel) ⟨Nat.le_of_ble_eq_true rfl, Nat.le_of_ble_eq_true rfl⟩) hK hN hP rfl rfl (cx_C G (z3 α β γ)) rfl hl.1 rfl (Nat.le_of_ble_eq_true rfl) dX4_send_2 ⟨Nat.zero_le _, Nat.zero_le _⟩ ?_
  refine lv_aload_n hx hb dX4_send_5 rfl (lv_at hl 0 rfl) ?_
  refine lv_iload_n hx hb dX4_send_6 rfl (lv_at hl 2 rfl) ?_
  refine lv_iload_n hx hb dX4_send_7 rfl (lv_at hl 3 rfl) ?_
  refine o_cVv (q0 := 0) (ci := 6) [.int y, .int z] [] ⟨hx, hb, hml, hown, hts⟩ (m_X4_checkPitch l G α β γ nS nO nH hz y z (h2) (h3)) (cwV 2 hts gX4_send_X4_checkPitch rfl rfl rfl (by decide +kernel) ⟨Nat.le_of_ble_eq_true rfl, Nat.le_of_ble_eq_true rfl⟩) hK hN hP rfl rfl (cx_C G (z3 α β γ)) rfl hl.1 rfl (Nat.le_of_ble_eq_true rfl) dX4_send_8 ⟨Nat.zero_le _, Nat.zero_le _⟩ ?_
  refine lv_aload_n hx hb dX4_send_11 rfl (lv_at hl 0 rfl) ?_
  refine va_get (D := G.1) (ci := 6) (v := .ref (ta G 0 (0))) (C := RX4) (T := TX4) (N := 3) hx hb hts (fun w9 h9 => List.mem_cons_of_mem _ (List.mem_append_left _ (List.mem_append_left _ (List.mem_append_left _ (List.mem_append_left _ (List.mem_append_left _ (List.mem_append_right _ (h9)))))))) hown hK hP (0) (cx_C G (z3 α β γ)) rfl 0 (by decide) (hts (.fieldLink RX4 10 "OrganCensus" "town" "LOrganCensus$Town;") (List.mem_of_getElem? (i := 3) rfl)) (fun _ h9 => h9) rfl dX4_send_12 ?_
  refine va_get (D := G.1) (ci := 5) (v := .ref (ta G 0 (2))) (C := RX3) (T := TX3) (N := 5) hx hb hts (fun w9 h9 => List.mem_cons_of_mem _ (List.mem_append_left _ (List.mem_append_left _ (List.mem_append_left _ (List.mem_append_left _ (List.mem_append_right _ (h9))))))) hown hK hP (1 + 67 * 0 + (0)) (cx_T G (z3 α β γ) (show 0 < 2 by decide)) rfl 1 (by decide) (hts (.fieldLink RX4 97 "OrganCensus$Town" "organs" "[LOrganCensus$Organ;") (List.mem_of_getElem? (i := 4) rfl)) (fun _ h9 => h9) rfl dX4_send_15 ?_
  refine lv_iload_n hx hb dX4_send_18 rfl (lv_at hl 1 rfl) ?_
  refine o_aald (k := oN x) (C := RX0) hx hb hK hP (1 + 67 * 0 + (2)) 2 (cx_OA G (z3 α β γ) (show 0 < 2 by decide)) rfl (oIn_x h1) (by omega) (by decide) rfl dX4_send_19 ?_
  refine lv_astore (lv' := [(4, .ref (ta G 0 (27 + 5 * (oN x)))), (0, .ref (G.2.1 0)), (1, .int x), (2, .int y), (3, .int z)]) hx hb dX4_send_20 hl (by decide) rfl (fun ls hl => ?_)
  refine lv_aload hx hb dX4_send_22 (lv_at hl 0 rfl) ?_
  refine va_get (D := G.1) (ci := 2) (v := .ref (ta G 0 (31 + 5 * (oN x)))) (C := RX0) (T := TX0) (N := 12) hx hb hts (fun w9 h9 => List.mem_cons_of_mem _ (List.mem_append_left _ (List.mem_append_left _ (List.mem_append_left _ (List.mem_append_right _ (h9)))))) hown hK hP (1 + 67 * 0 + (27 + 5 * (oN x))) (cx_O G (z3 α β γ) (show 0 < 2 by decide) (by omega)) rfl 3 (by decide) (hts (.fieldLink RX4 109 "OrganCensus$Organ" "banishedHours" "[I") (List.mem_of_getElem? (i := 5) rfl)) (fun _ h9 => h9) rfl dX4_send_24 ?_
  refine lv_iload_n hx hb dX4_send_27 rfl (lv_at hl 3 rfl) ?_
  refine o_iald (k := oN y) hx hb hK hP (1 + 67 * 0 + (31 + 5 * (oN x))) 0 (cx_Ob G (z3 α β γ) (show 0 < 2 by decide) (by omega)) rfl (oIn_x h2) (by omega) (by decide) dX4_send_28 ?_
  refine lv_if_le (tgt := 42) hx hb dX4_send_29 (by decide) (fun c29 => ?_) (fun c29 => ?_)
  · refine lv_aload hx hb dX4_send_42 (lv_at hl 0 rfl) ?_
    refine lv_iload_n hx hb dX4_send_44 rfl (lv_at hl 3 rfl) ?_
    refine lv_iload_n hx hb dX4_send_45 rfl (lv_at hl 4 rfl) ?_
    have hP : va_P G.1 vwCl (tw G (z3 α β γ) 0 α) s.heap := by rw [tz0]; exact hP
    refine o_cVi (q0 := 1 + 67 * 0 + (27 + 5 * (oN x))) (ci := 2) [.int y, .int z] [] ⟨hx, hb, hml, hown, hts⟩ (m_X0_hoursTo l G (z3 α β γ) (show 0 < 2 by decide) α (oN x) (by omega) y z) (cwV 2 hts gX4_send_X0_hoursTo rfl rfl rfl (by decide +kernel) ⟨Nat.le_of_ble_eq_true rfl, Nat.le_of_ble_eq_true rfl⟩) hK hN hP rfl rfl (tw_O G (z3 α β γ) (show 0 < 2 by decide) α (by omega)) rfl hl.1 rfl (Nat.le_of_ble_eq_true rfl) dX4_send_46 ⟨Nat.zero_le _, Nat.zero_le _⟩ ?_
    have hP : va_P G.1 vwCl (cw G (z3 α β γ)) s.heap := by rw [tz0] at hP; exact hP
    refine lv_istore (lv' := [(5, .int (oTo α (oN x) y z)), (4, .ref (ta G 0 (27 + 5 * (oN x)))), (0, .ref (G.2.1 0)), (1, .int x), (2, .int y), (3, .int z)]) hx hb dX4_send_49 hl (by decide) rfl (fun ls hl => ?_)
    refine lv_aload hx hb dX4_send_51 (lv_at hl 1 rfl) ?_
    refine lv_iload_n hx hb dX4_send_53 rfl (lv_at hl 4 rfl) ?_
    refine lv_iload_n hx hb dX4_send_54 rfl (lv_at hl 5 rfl) ?_
    refine lv_iload hx hb dX4_send_55 (lv_at hl 0 rfl) ?_
    have hP : va_P G.1 vwCl (tw G (z3 α β γ) 0 α) s.heap := by rw [tz0]; exact hP
    refine o_cVmv (q0 := 1 + 67 * 0 + (27 + 5 * (oN x))) (ci := 2) [.int y, .int z, .int (oTo α (oN x) y z)] [] ⟨hx, hb, hml, hown, hts⟩ (m_X0_moveTo l G (z3 α β γ) (show 0 < 2 by decide) hI α (oN x) (by omega) y z (oTo α (oN x) y z)) (cwV 3 hts gX4_send_X0_moveTo rfl rfl rfl (by decide +kernel) ⟨Nat.le_of_ble_eq_true rfl, Nat.le_of_ble_eq_true rfl⟩) hK hN hP hS rfl rfl (tw_O G (z3 α β γ) (show 0 < 2 by decide) α (by omega)) rfl hl.1 rfl (Nat.le_of_ble_eq_true rfl) dX4_send_57 ⟨Nat.zero_le _, Nat.zero_le _⟩ (fun H locs hP hS => ?_)
    have hP : va_P G.1 vwCl (cw G (z3 (oMove α (oN x) y z (oTo α (oN x) y z)) β γ)) H := by rw [tz0] at hP; exact hP
    refine lv_iload hx hb dX4_send_60 (lv_at hl 0 rfl) ?_
    exact o_iretM hx hb hr hlocks hS dX4_send_62 (hP) (rfl)
  · exact absurd h4 c29
set_option maxHeartbeats 4000000 in
set_option maxRecDepth 100000 in
theorem m_X4_organ (l : Launch) (G : oG) (α β γ : oT) (nS : Nat) (nO : Nat) (nH : Nat) (hz : oOK α nS nO nH) (x : Int32) (y : Int32) (h1 : oIn x nO = true) (h2 : oIn y 11 = true) : Met l yX4_organ wsX4_organ ({ frames := 3, cells := 0, slots := 0, locals := 62 } : Room) (va_Pc [.ref (G.2.1 0), .int x, .int y] (PW G (cw G (z3 α β γ)))) (oR (some (.int (oFact α (oN x) (oN y))))) 0 0 (fun _ => False) := by
  refine o_body (cc := cX4_organ) (by decide +kernel) rfl (Nat.le_of_ble_eq_true rfl) ?_
  intro p e s m below meth c ls hx hb hml hr hlocks hown hts hP hK hN hl
  have hown : s.vm.findClass RX4 = some m.cls := hown
  have hl : lv_has ls 3 [(0, .ref (G.2.1 0)), (1, .int x), (2, .int y)] := hl
  obtain ⟨hz1, hz2, hz3, hz4, hz5, hz6, hz7⟩ := id hz
  have n1 := oIn_lt (by omega) h1
  have n2 := oIn_lt (by omega) h2
  refine lv_aload_n hx hb dX4_organ_0 rfl (lv_at hl 0 rfl) ?_
  refine lv_iload_n hx hb dX4_organ_1 rfl (lv_at hl 1 rfl) ?_
  refine o_cVv (q0 := 0) (ci := 6) [.int x] [] ⟨hx, hb, hml, hown, hts⟩ (m_X4_checkOrgan l G α β γ nS nO nH hz x (h1)) (cwV 1 hts gX4_organ_X4_checkOrgan rfl rfl rfl (by decide +kernel) ⟨Nat.le_of_ble_eq_true rfl, Nat.le_of_ble_eq_true rfl⟩) hK hN hP rfl rfl (cx_C G (z3 α β γ)) rfl hl.1 rfl (Nat.le_of_ble_eq_true rfl) dX4_organ_2 ⟨Nat.zero_le _, Nat.zero_le _⟩ ?_
  refine lv_iload_n hx hb dX4_organ_5 rfl (lv_at hl 2 rfl) ?_
  refine lv_bipush (v := 11) hx hb dX4_organ_6 (by decide) ?_
  refine o_cSv [.int y, .int 11] [] ⟨hx, hb, hml, hown, hts⟩ (m_X4_checkIndex l G α β γ y 11 11 ((by decide)) (by omega) (h2)) (va_cwS 2 hts gX4_organ_X4_checkIndex rfl rfl rfl (by decide +kernel) ⟨Nat.le_of_ble_eq_true rfl, Nat.le_of_ble_eq_true rfl⟩) hK hN hP rfl hl.1 rfl (Nat.le_of_ble_eq_true rfl) dX4_organ_8 ⟨Nat.zero_le _, Nat.zero_le _⟩ ?_
  refine lv_aload_n hx hb dX4_organ_11 rfl (lv_at hl 0 rfl) ?_
  refine va_get (D := G.1) (ci := 6) (v := .ref (ta G 0 (0))) (C := RX4) (T := TX4) (N := 3) hx hb hts (fun w9 h9 => List.mem_cons_of_mem _ (List.mem_append_left _ (List.mem_append_left _ (List.mem_append_left _ (List.mem_append_right _ (h9)))))) hown hK hP (0) (cx_C G (z3 α β γ)) rfl 0 (by decide) (hts (.fieldLink RX4 10 "OrganCensus" "town" "LOrganCensus$Town;") (List.mem_of_getElem? (i := 1) rfl)) (fun _ h9 => h9) rfl dX4_organ_12 ?_
  refine va_get (D := G.1) (ci := 5) (v := .ref (ta G 0 (2))) (C := RX3) (T := TX3) (N := 5) hx hb hts (fun w9 h9 => List.mem_cons_of_mem _ (List.mem_append_left _ (List.mem_append_left _ (List.mem_append_right _ (h9))))) hown hK hP (1 + 67 * 0 + (0)) (cx_T G (z3 α β γ) (show 0 < 2 by decide)) rfl 1 (by decide) (hts (.fieldLink RX4 97 "OrganCensus$Town" "organs" "[LOrganCensus$Organ;") (List.mem_of_getElem? (i := 2) rfl)) (fun _ h9 => h9) rfl dX4_organ_15 ?_
  refine lv_iload_n hx hb dX4_organ_18 rfl (lv_at hl 1 rfl) ?_
  refine o_aald (k := oN x) (C := RX0) hx hb hK hP (1 + 67 * 0 + (2)) 2 (cx_OA G (z3 α β γ) (show 0 < 2 by decide)) rfl (oIn_x h1) (by omega) (by decide) rfl dX4_organ_19 ?_
  refine lv_iload_n hx hb dX4_organ_20 rfl (lv_at hl 2 rfl) ?_
  have hP : va_P G.1 vwCl (tw G (z3 α β γ) 0 α) s.heap := by rw [tz0]; exact hP
  refine o_cVi (q0 := 1 + 67 * 0 + (27 + 5 * (oN x))) (ci := 2) [.int y] [] ⟨hx, hb, hml, hown, hts⟩ (m_X0_fact l G (z3 α β γ) (show 0 < 2 by decide) α (oN x) (by omega) (oN y) y ((oIn_x h2)) (by omega)) (cwV 1 hts gX4_organ_X0_fact rfl rfl rfl (by decide +kernel) ⟨Nat.le_of_ble_eq_true rfl, Nat.le_of_ble_eq_true rfl⟩) hK hN hP rfl rfl (tw_O G (z3 α β γ) (show 0 < 2 by decide) α (by omega)) rfl hl.1 rfl (Nat.le_of_ble_eq_true rfl) dX4_organ_21 ⟨Nat.zero_le _, Nat.zero_le _⟩ ?_
  have hP : va_P G.1 vwCl (cw G (z3 α β γ)) s.heap := by rw [tz0] at hP; exact hP
  exact o_iretR hx hb hr hlocks dX4_organ_24 (rfl)
set_option maxHeartbeats 4000000 in
set_option maxRecDepth 100000 in
theorem m_X4_banished (l : Launch) (G : oG) (α β γ : oT) (nS : Nat) (nO : Nat) (nH : Nat) (hz : oOK α nS nO nH) (x : Int32) (y : Int32) (h1 : oIn x nO = true) (h2 : oIn y nS = true) : Met l yX4_banished wsX4_banished ({ frames := 2, cells := 0, slots := 0, locals := 42 } : Room) (va_Pc [.ref (G.2.1 0), .int x, .int y] (PW G (cw G (z3 α β γ)))) (oR (some (.int (α 9 (oN x) (oN y))))) 0 0 (fun _ => False) := by
  refine o_body (cc := cX4_banished) (by decide +kernel) rfl (Nat.le_of_ble_eq_true rfl) ?_
  intro p e s m below meth c ls hx hb hml hr hlocks hown hts hP hK hN hl
  have hown : s.vm.findClass RX4 = some m.cls := hown
  have hl : lv_has ls 3 [(0, .ref (G.2.1 0)), (1, .int x), (2, .int y)] := hl
  obtain ⟨hz1, hz2, hz3, hz4, hz5, hz6, hz7⟩ := id hz
  have n1 := oIn_lt (by omega) h1
  have n2 := oIn_lt (by omega) h2
  refine lv_aload_n hx hb dX4_banished_0 rfl (lv_at hl 0 rfl) ?_
  refine lv_iload_n hx hb dX4_banished_1 rfl (lv_at hl 1 rfl) ?_
  refine o_cVv (q0 := 0) (ci := 6) [.int x] [] ⟨hx, hb, hml, hown, hts⟩ (m_X4_checkOrgan l G α β γ nS nO nH hz x (h1)) (cwV 1 hts gX4_banished_X4_checkOrgan rfl rfl rfl (by decide +kernel) ⟨Nat.le_of_ble_eq_true rfl, Nat.le_of_ble_eq_true rfl⟩) hK hN hP rfl rfl (cx_C G (z3 α β γ)) rfl hl.1 rfl (Nat.le_of_ble_eq_true rfl) dX4_banished_2 ⟨Nat.zero_le _, Nat.zero_le _⟩ ?_
  refine lv_aload_n hx hb dX4_banished_5 rfl (lv_at hl 0 rfl) ?_
  refine lv_iload_n hx hb dX4_banished_6 rfl (lv_at hl 2 rfl) ?_
  refine o_cVv (q0 := 0) (ci := 6) [.int y] [] ⟨hx, hb, hml, hown, hts⟩ (m_X4_checkStreet l G α β γ nS nO nH hz y (h2)) (cwV 1 hts gX4_banished_X4_checkStreet rfl rfl rfl (by decide +kernel) ⟨Nat.le_of_ble_eq_true rfl, Nat.le_of_ble_eq_true rfl⟩) hK hN hP rfl rfl (cx_C G (z3 α β γ)) rfl hl.1 rfl (Nat.le_of_ble_eq_true rfl) dX4_banished_7 ⟨Nat.zero_le _, Nat.zero_le _⟩ ?_
  refine lv_aload_n hx hb dX4_banished_10 rfl (lv_at hl 0 rfl) ?_
  refine va_get (D := G.1) (ci := 6) (v := .ref (ta G 0 (0))) (C := RX4) (T := TX4) (N := 3) hx hb hts (fun w9 h9 => List.mem_cons_of_mem _ (List.mem_append_left _ (List.mem_append_left _ (List.mem_append_left _ (List.mem_append_right _ (h9)))))) hown hK hP (0) (cx_C G (z3 α β γ)) rfl 0 (by decide) (hts (.fieldLink RX4 10 "OrganCensus" "town" "LOrganCensus$Town;") (List.mem_of_getElem? (i := 1) rfl)) (fun _ h9 => h9) rfl dX4_banished_11 ?_
  refine va_get (D := G.1) (ci := 5) (v := .ref (ta G 0 (2))) (C := RX3) (T := TX3) (N := 5) hx hb hts (fun w9 h9 => List.mem_cons_of_mem _ (List.mem_append_left _ (List.mem_append_left _ (List.mem_append_right _ (h9))))) hown hK hP (1 + 67 * 0 + (0)) (cx_T G (z3 α β γ) (show 0 < 2 by decide)) rfl 1 (by decide) (hts (.fieldLink RX4 97 "OrganCensus$Town" "organs" "[LOrganCensus$Organ;") (List.mem_of_getElem? (i := 2) rfl)) (fun _ h9 => h9) rfl dX4_banished_14 ?_
  refine lv_iload_n hx hb dX4_banished_17 rfl (lv_at hl 1 rfl) ?_
  refine o_aald (k := oN x) (C := RX0) hx hb hK hP (1 + 67 * 0 + (2)) 2 (cx_OA G (z3 α β γ) (show 0 < 2 by decide)) rfl (oIn_x h1) (by omega) (by decide) rfl dX4_banished_18 ?_
  refine va_get (D := G.1) (ci := 2) (v := .ref (ta G 0 (31 + 5 * (oN x)))) (C := RX0) (T := TX0) (N := 12) hx hb hts (fun w9 h9 => List.mem_cons_of_mem _ (List.mem_append_left _ (List.mem_append_right _ (h9)))) hown hK hP (1 + 67 * 0 + (27 + 5 * (oN x))) (cx_O G (z3 α β γ) (show 0 < 2 by decide) (by omega)) rfl 3 (by decide) (hts (.fieldLink RX4 109 "OrganCensus$Organ" "banishedHours" "[I") (List.mem_of_getElem? (i := 3) rfl)) (fun _ h9 => h9) rfl dX4_banished_19 ?_
  refine lv_iload_n hx hb dX4_banished_22 rfl (lv_at hl 2 rfl) ?_
  refine o_iald (k := oN y) hx hb hK hP (1 + 67 * 0 + (31 + 5 * (oN x))) 0 (cx_Ob G (z3 α β γ) (show 0 < 2 by decide) (by omega)) rfl (oIn_x h2) (by omega) (by decide) dX4_banished_23 ?_
  exact o_iretR hx hb hr hlocks dX4_banished_24 (rfl)
set_option maxHeartbeats 4000000 in
set_option maxRecDepth 100000 in
theorem m_X4_heard (l : Launch) (G : oG) (α β γ : oT) (nS : Nat) (nO : Nat) (nH : Nat) (hz : oOK α nS nO nH) (x : Int32) (y : Int32) (h1 : oIn x nS = true) (h2 : oIn y (oNp α (oN x)) = true) : Met l yX4_heard wsX4_heard ({ frames := 3, cells := 0, slots := 0, locals := 70 } : Room) (va_Pc [.ref (G.2.1 0), .int x, .int y] (PW G (cw G (z3 α β γ)))) (oR (some (.int (oHeard α nO x y)))) 0 0 (fun _ => False) := by
  refine o_body (cc := cX4_heard) (by decide +kernel) rfl (Nat.le_of_ble_eq_true rfl) ?_
  intro p e s m below meth c ls hx hb hml hr hlocks hown hts hP hK hN hl
  have hown : s.vm.findClass RX4 = some m.cls := hown
  have hl : lv_has ls 3 [(0, .ref (G.2.1 0)), (1, .int x), (2, .int y)] := hl
  obtain ⟨hz1, hz2, hz3, hz4, hz5, hz6, hz7⟩ := id hz
  refine lv_aload_n hx hb dX4_heard_0 rfl (lv_at hl 0 rfl) ?_
  refine lv_iload_n hx hb dX4_heard_1 rfl (lv_at hl 1 rfl) ?_
  refine lv_iload_n hx hb dX4_heard_2 rfl (lv_at hl 2 rfl) ?_
  refine o_cVv (q0 := 0) (ci := 6) [.int x, .int y] [] ⟨hx, hb, hml, hown, hts⟩ (m_X4_checkPitch l G α β γ nS nO nH hz x y (h1) (h2)) (cwV 2 hts gX4_heard_X4_checkPitch rfl rfl rfl (by decide +kernel) ⟨Nat.le_of_ble_eq_true rfl, Nat.le_of_ble_eq_true rfl⟩) hK hN hP rfl rfl (cx_C G (z3 α β γ)) rfl hl.1 rfl (Nat.le_of_ble_eq_true rfl) dX4_heard_3 ⟨Nat.zero_le _, Nat.zero_le _⟩ ?_
  refine lv_aload_n hx hb dX4_heard_6 rfl (lv_at hl 0 rfl) ?_
  refine va_get (D := G.1) (ci := 6) (v := .ref (ta G 0 (0))) (C := RX4) (T := TX4) (N := 3) hx hb hts (fun w9 h9 => List.mem_cons_of_mem _ (List.mem_append_left _ (List.mem_append_left _ (List.mem_append_left _ (List.mem_append_left _ (List.mem_append_right _ (h9))))))) hown hK hP (0) (cx_C G (z3 α β γ)) rfl 0 (by decide) (hts (.fieldLink RX4 10 "OrganCensus" "town" "LOrganCensus$Town;") (List.mem_of_getElem? (i := 1) rfl)) (fun _ h9 => h9) rfl dX4_heard_7 ?_
  refine lv_iload_n hx hb dX4_heard_10 rfl (lv_at hl 1 rfl) ?_
  refine lv_iload_n hx hb dX4_heard_11 rfl (lv_at hl 2 rfl) ?_
  have hP : va_P G.1 vwCl (tw G (z3 α β γ) 0 α) s.heap := by rw [tz0]; exact hP
  refine o_cVi (q0 := 1 + 67 * 0 + (0)) (ci := 5) [.int x, .int y] [] ⟨hx, hb, hml, hown, hts⟩ (m_X3_whoIsHeard l G (z3 α β γ) (show 0 < 2 by decide) α nS nO nH hz x y) (cwV 2 hts gX4_heard_X3_whoIsHeard rfl rfl rfl (by decide +kernel) ⟨Nat.le_of_ble_eq_true rfl, Nat.le_of_ble_eq_true rfl⟩) hK hN hP rfl rfl (tw_T G (z3 α β γ) (show 0 < 2 by decide) α) rfl hl.1 rfl (Nat.le_of_ble_eq_true rfl) dX4_heard_12 ⟨Nat.zero_le _, Nat.zero_le _⟩ ?_
  have hP : va_P G.1 vwCl (cw G (z3 α β γ)) s.heap := by rw [tz0] at hP; exact hP
  exact o_iretR hx hb hr hlocks dX4_heard_15 (rfl)
set_option maxHeartbeats 4000000 in
set_option maxRecDepth 100000 in
theorem m_X4_count (l : Launch) (G : oG) (α β γ : oT) (nS : Nat) (nO : Nat) (nH : Nat) (hz : oOK α nS nO nH) (x : Int32) (h1 : oIn x 8 = true) : Met l yX4_count wsX4_count ({ frames := 4, cells := 0, slots := 0, locals := 87 } : Room) (va_Pc [.ref (G.2.1 0), .int x] (PW G (cw G (z3 α β γ)))) (oR (some (.int (kCnt α γ nS nO (oN x))))) 0 0 (fun _ => False) := by
  refine o_body (cc := cX4_count) (by decide +kernel) rfl (Nat.le_of_ble_eq_true rfl) ?_
  intro p e s m below meth c ls hx hb hml hr hlocks hown hts hP hK hN hl
  have hown : s.vm.findClass RX4 = some m.cls := hown
  have hl : lv_has ls 2 [(0, .ref (G.2.1 0)), (1, .int x)] := hl
  obtain ⟨hz1, hz2, hz3, hz4, hz5, hz6, hz7⟩ := id hz
  have n1 := oIn_lt (by omega) h1
  refine lv_iload_n hx hb dX4_count_0 rfl (lv_at hl 1 rfl) ?_
  refine lv_bipush (v := 8) hx hb dX4_count_1 (by decide) ?_
  refine o_cSv [.int x, .int 8] [] ⟨hx, hb, hml, hown, hts⟩ (m_X4_checkIndex l G α β γ x 8 8 ((by decide)) (by omega) (h1)) (va_cwS 2 hts gX4_count_X4_checkIndex rfl rfl rfl (by decide +kernel) ⟨Nat.le_of_ble_eq_true rfl, Nat.le_of_ble_eq_true rfl⟩) hK hN hP rfl hl.1 rfl (Nat.le_of_ble_eq_true rfl) dX4_count_3 ⟨Nat.zero_le _, Nat.zero_le _⟩ ?_
  refine lv_iload_n hx hb dX4_count_6 rfl (lv_at hl 1 rfl) ?_
  refine lv_bipush (v := 7) hx hb dX4_count_7 (by decide) ?_
  refine lv_icmp_ne (tgt := 22) hx hb dX4_count_9 (by decide) (fun c9 => ?_) (fun c9 => ?_)
  · have n9 := (mt (o_neq (a := oN x) (b := 7) (oIn_x h1) (by decide) (by omega) (by omega)).mpr) c9
    refine lv_aload_n hx hb dX4_count_22 rfl (lv_at hl 0 rfl) ?_
    refine va_get (D := G.1) (ci := 6) (v := .ref (ta G 0 (0))) (C := RX4) (T := TX4) (N := 3) hx hb hts (fun w9 h9 => List.mem_cons_of_mem _ (List.mem_append_left _ (List.mem_append_left _ (List.mem_append_left _ (List.mem_append_left _ (List.mem_append_right _ (h9))))))) hown hK hP (0) (cx_C G (z3 α β γ)) rfl 0 (by decide) (hts (.fieldLink RX4 10 "OrganCensus" "town" "LOrganCensus$Town;") (List.mem_of_getElem? (i := 3) rfl)) (fun _ h9 => h9) rfl dX4_count_23 ?_
    refine lv_iload_n hx hb dX4_count_26 rfl (lv_at hl 1 rfl) ?_
    have hP : va_P G.1 vwCl (tw G (z3 α β γ) 0 α) s.heap := by rw [tz0]; exact hP
    refine o_cVi (q0 := 1 + 67 * 0 + (0)) (ci := 5) [.int x] [] ⟨hx, hb, hml, hown, hts⟩ (m_X3_countOf l G (z3 α β γ) (show 0 < 2 by decide) α nS nO nH hz (oN x) x ((oIn_x h1)) (by omega)) (cwV 1 hts gX4_count_X3_countOf rfl rfl rfl (by decide +kernel) ⟨Nat.le_of_ble_eq_true rfl, Nat.le_of_ble_eq_true rfl⟩) hK hN hP rfl rfl (tw_T G (z3 α β γ) (show 0 < 2 by decide) α) rfl hl.1 rfl (Nat.le_of_ble_eq_true rfl) dX4_count_27 ⟨Nat.zero_le _, Nat.zero_le _⟩ ?_
    have hP : va_P G.1 vwCl (cw G (z3 α β γ)) s.heap := by rw [tz0] at hP; exact hP
    exact o_iretR hx hb hr hlocks dX4_count_30 (by first | (rw [kCnt, if_pos n9]; done) | (rw [kCnt, if_pos n9]; rfl) | rw [kCnt, if_neg n9])
  · have n9 := (o_neq (a := oN x) (b := 7) (oIn_x h1) (by decide) (by omega) (by omega)).mp c9
    refine lv_aload_n hx hb dX4_count_12 rfl (lv_at hl 0 rfl) ?_
    refine va_get (D := G.1) (ci := 6) (v := .ref (G.2.1 135)) (C := RX4) (T := TX4) (N := 3) hx hb hts (fun w9 h9 => List.mem_cons_of_mem _ (List.mem_append_left _ (List.mem_append_left _ (List.mem_append_left _ (List.mem_append_left _ (List.mem_append_right _ (h9))))))) hown hK hP (0) (cx_C G (z3 α β γ)) rfl 2 (by decide) (hts (.fieldLink RX4 22 "OrganCensus" "paper" "LOrganCensus$Paper;") (List.mem_of_getElem? (i := 1) rfl)) (fun _ h9 => h9) rfl dX4_count_13 ?_
    refine va_get (D := G.1) (ci := 3) (v := .int (γ 0 0 0)) (C := RX1) (T := TX1) (N := 2) hx hb hts (fun w9 h9 => List.mem_cons_of_mem _ (List.mem_append_left _ (List.mem_append_left _ (List.mem_append_left _ (List.mem_append_right _ (h9)))))) hown hK hP (135) (cx_P G (z3 α β γ)) rfl 1 (by decide) (hts (.fieldLink RX4 130 "OrganCensus$Paper" "length" "I") (List.mem_of_getElem? (i := 2) rfl)) (fun _ h9 => h9) rfl dX4_count_16 ?_
    refine lv_goto (tgt := 30) hx hb dX4_count_19 (by decide) ?_
    exact o_iretR hx hb hr hlocks dX4_count_30 (by first | (rw [kCnt, if_pos n9]; done) | (rw [kCnt, if_pos n9]; rfl) | rw [kCnt, if_neg n9])
set_option maxHeartbeats 4000000 in
set_option maxRecDepth 100000 in
theorem m_X4_byteAt (l : Launch) (G : oG) (α β γ : oT) (x : Int32) (hg : pOK γ) (h1 : oIn x (oN (γ 0 0 0)) = true) : Met l yX4_byteAt wsX4_byteAt ({ frames := 1, cells := 0, slots := 0, locals := 21 } : Room) (va_Pc [.ref (G.2.1 0), .int x] (PW G (cw G (z3 α β γ)))) (oR (some (.int (γ 1 0 (oN x))))) 0 0 (fun _ => False) := by
  refine o_body (cc := cX4_byteAt) (by decide +kernel) rfl (Nat.le_of_ble_eq_true rfl) ?_
  intro p e s m below meth c ls hx hb hml hr hlocks hown hts hP hK hN hl
  have hown : s.vm.findClass RX4 = some m.cls := hown
  have hl : lv_has ls 2 [(0, .ref (G.2.1 0)), (1, .int x)] := hl
  have hg2 := hg.2
  have n1 := oIn_lt (by omega) h1
  refine lv_iload_n hx hb dX4_byteAt_0 rfl (lv_at hl 1 rfl) ?_
  refine lv_aload_n hx hb dX4_byteAt_1 rfl (lv_at hl 0 rfl) ?_
  refine va_get (D := G.1) (ci := 6) (v := .ref (G.2.1 135)) (C := RX4) (T := TX4) (N := 3) hx hb hts (fun w9 h9 => List.mem_cons_of_mem _ (List.mem_append_left _ (List.mem_append_left _ (List.mem_append_right _ (h9))))) hown hK hP (0) (cx_C G (z3 α β γ)) rfl 2 (by decide) (hts (.fieldLink RX4 22 "OrganCensus" "paper" "LOrganCensus$Paper;") (List.mem_of_getElem? (i := 1) rfl)) (fun _ h9 => h9) rfl dX4_byteAt_2 ?_
  refine va_get (D := G.1) (ci := 3) (v := .int (γ 0 0 0)) (C := RX1) (T := TX1) (N := 2) hx hb hts (fun w9 h9 => List.mem_cons_of_mem _ (List.mem_append_left _ (List.mem_append_right _ (h9)))) hown hK hP (135) (cx_P G (z3 α β γ)) rfl 1 (by decide) (hts (.fieldLink RX4 130 "OrganCensus$Paper" "length" "I") (List.mem_of_getElem? (i := 2) rfl)) (fun _ h9 => h9) rfl dX4_byteAt_5 ?_
  refine o_cSv [.int x, .int (γ 0 0 0)] [] ⟨hx, hb, hml, hown, hts⟩ (m_X4_checkIndex l G α β γ x (oN (γ 0 0 0)) (γ 0 0 0) (hg.1) (by omega) (h1)) (va_cwS 2 hts gX4_byteAt_X4_checkIndex rfl rfl rfl (by decide +kernel) ⟨Nat.le_of_ble_eq_true rfl, Nat.le_of_ble_eq_true rfl⟩) hK hN hP rfl hl.1 rfl (Nat.le_of_ble_eq_true rfl) dX4_byteAt_8 ⟨Nat.zero_le _, Nat.zero_le _⟩ ?_
  refine lv_aload_n hx hb dX4_byteAt_11 rfl (lv_at hl 0 rfl) ?_
  refine va_get (D := G.1) (ci := 6) (v := .ref (G.2.1 135)) (C := RX4) (T := TX4) (N := 3) hx hb hts (fun w9 h9 => List.mem_cons_of_mem _ (List.mem_append_left _ (List.mem_append_left _ (List.mem_append_right _ (h9))))) hown hK hP (0) (cx_C G (z3 α β γ)) rfl 2 (by decide) (hts (.fieldLink RX4 22 "OrganCensus" "paper" "LOrganCensus$Paper;") (List.mem_of_getElem? (i := 1) rfl)) (fun _ h9 => h9) rfl dX4_byteAt_12 ?_
  refine va_get (D := G.1) (ci := 3) (v := .ref (G.2.1 136)) (C := RX1) (T := TX1) (N := 2) hx hb hts (fun w9 h9 => List.mem_cons_of_mem _ (List.mem_append_left _ (List.mem_append_right _ (h9)))) hown hK hP (135) (cx_P G (z3 α β γ)) rfl 0 (by decide) (hts (.fieldLink RX4 169 "OrganCensus$Paper" "bytes" "[B") (List.mem_of_getElem? (i := 3) rfl)) (fun _ h9 => h9) rfl dX4_byteAt_15 ?_
  refine lv_iload_n hx hb dX4_byteAt_18 rfl (lv_at hl 1 rfl) ?_
  refine o_bald (k := oN x) hx hb hK hP (136) 3 (cx_PB G (z3 α β γ)) rfl (oIn_x h1) (by omega) (by decide) dX4_byteAt_19 ?_
  exact o_iretR hx hb hr hlocks dX4_byteAt_20 (rfl)
set_option maxHeartbeats 4000000 in
set_option maxRecDepth 100000 in
theorem m_X4_pass (l : Launch) (G : oG) (hI : wl_I G.2.1 137) (α β γ : oT) (nS : Nat) (nO : Nat) (nH : Nat) (hz : oOK α nS nO nH) (x : Int32) (h1 : oRg x 1 100 = true) (hb9 : nH + 100 < 1000000) : Met l yX4_pass wsX4_pass ({ frames := 5, cells := 0, slots := 0, locals := 117 } : Room) (va_Pc [.ref (G.2.1 0), .int x] (PW G (cw G (z3 α β γ)))) (oQ (some (.int (oPs α nS nO nH (oN x)))) (fun H9 => va_P G.1 vwCl (cw G (z3 (oPn α nS nO nH (oN x)) β γ)) H9) (oA G)) 0 0 (oA G) := by
  refine o_body (cc := cX4_pass) (by decide +kernel) rfl (Nat.le_of_ble_eq_true rfl) ?_
  intro p e s m below meth c ls hx hb hml hr hlocks hown hts hP hK hN hl
  have hown : s.vm.findClass RX4 = some m.cls := hown
  have hl : lv_has ls 4 [(0, .ref (G.2.1 0)), (1, .int x)] := hl
  have hS : va_S (oA G) s.heap s.heap [] := va_S.rf
  obtain ⟨hz1, hz2, hz3, hz4, hz5, hz6, hz7⟩ := id hz
  have hr1 := oRg_1 h1
  have hx9 := oN_of (Int32.le_trans (show (0 : Int32) ≤ 1 by decide) hr1.1)
  have n1 : oN x ≤ 100 := (o_nle (y := (100 : Int32)) (b := 100) hx9 rfl oN_lt (by decide)).mp hr1.2
  refine lv_iload_n hx hb dX4_pass_0 rfl (lv_at hl 1 rfl) ?_
  refine lv_iconst (v := 1) hx hb dX4_pass_1 (by decide) ?_
  refine lv_bipush (v := 100) hx hb dX4_pass_2 (by decide) ?_
  refine o_cSv [.int x, .int 1, .int 100] [] ⟨hx, hb, hml, hown, hts⟩ (m_X4_checkRange l G α β γ x 1 100 (h1)) (va_cwS 3 hts gX4_pass_X4_checkRange rfl rfl rfl (by decide +kernel) ⟨Nat.le_of_ble_eq_true rfl, Nat.le_of_ble_eq_true rfl⟩) hK hN hP rfl hl.1 rfl (Nat.le_of_ble_eq_true rfl) dX4_pass_4 ⟨Nat.zero_le _, Nat.zero_le _⟩ ?_
  refine lv_iconst (v := 0) hx hb dX4_pass_7 (by decide) ?_
  refine lv_istore_n (lv' := [(2, .int 0), (0, .ref (G.2.1 0)), (1, .int x)]) hx hb dX4_pass_8 rfl hl (by decide) rfl (fun ls hl => ?_)
  refine lv_iconst (v := 0) hx hb dX4_pass_9 (by decide) ?_
  refine lv_istore_n (lv' := [(3, .int 0), (2, .int 0), (0, .ref (G.2.1 0)), (1, .int x)]) hx hb dX4_pass_10 rfl hl (by decide) rfl (fun ls hl => ?_)
  have lp11 : ∀ (d11 k : Nat), k + d11 = oN x → ∀ x11_2 : Int32, x11_2 = (oPs α nS nO nH k) → ∀ x11_3 : Int32, x11_3 = (nI k) → ∀ (τ11 : oZ), τ11 = (z3 (oPn α nS nO nH k) β γ) → ∀ (H : Heap) (locs : List Loc), va_P G.1 vwCl (cw G τ11) H → va_S (oA G) s.heap H locs → ∀ ls : Array Slot, lv_has ls 4 [(0, .ref (G.2.1 0)), (1, .int x), (2, .int x11_2), (3, .int x11_3)] → W p l e ({ frames := 5, cells := 0, slots := 0, locals := 117 } : Room) s m ([.ref (G.2.1 0), .int x] : List Value).toArray below meth c H locs 0 0 (MQ below (oQ (some (.int (oPs α nS nO nH (oN x)))) (fun H9 => va_P G.1 vwCl (cw G (z3 (oPn α nS nO nH (oN x)) β γ)) H9) (oA G)) ([.ref (G.2.1 0), .int x] : List Value).toArray s 0 0 (oA G)) (F0 m 11 ls []) := by
    intro d11
    induction d11 with
    | zero =>
      intro k hk11 x11_2 e11_2 x11_3 e11_3 τ11 eτ11 H locs hP hS ls hl
      subst e11_2
      subst e11_3
      subst eτ11
      have hz11_0 : oOK (oPn α nS nO nH k) nS nO (nH + k) := oPn_ok hz k (by omega)
      have hk11 : k = oN x := by omega
      refine lv_iload_n hx hb dX4_pass_11 rfl (lv_at hl 3 rfl) ?_
      refine lv_iload_n hx hb dX4_pass_12 rfl (lv_at hl 1 rfl) ?_
      refine lv_icmp_ge (tgt := 32) hx hb dX4_pass_13 (by decide) (fun c13 => ?_) (fun c13 => ?_)
      · have n13 := (o_nle (a := oN x) (b := k) hx9 rfl (by omega) (by omega)).mp c13
        refine lv_iload_n hx hb dX4_pass_32 rfl (lv_at hl 2 rfl) ?_
        exact o_iretM hx hb hr hlocks hS dX4_pass_33 (by subst hk11; exact hP) (by subst hk11; rfl)
      · have n13 := (mt (o_nle (a := oN x) (b := k) hx9 rfl (by omega) (by omega)).mpr) c13; omega
    | succ d11 ih11 =>
      intro k hk11 x11_2 e11_2 x11_3 e11_3 τ11 eτ11 H locs hP hS ls hl
      subst e11_2
      subst e11_3
      subst eτ11
      have hz11_0 : oOK (oPn α nS nO nH k) nS nO (nH + k) := oPn_ok hz k (by omega)
      have hj11 : k < oN x := by omega
      refine lv_iload_n hx hb dX4_pass_11 rfl (lv_at hl 3 rfl) ?_
      refine lv_iload_n hx hb dX4_pass_12 rfl (lv_at hl 1 rfl) ?_
      refine lv_icmp_ge (tgt := 32) hx hb dX4_pass_13 (by decide) (fun c13 => ?_) (fun c13 => ?_)
      · have n13 := (o_nle (a := oN x) (b := k) hx9 rfl (by omega) (by omega)).mp c13; omega
      · have n13 := (mt (o_nle (a := oN x) (b := k) hx9 rfl (by omega) (by omega)).mpr) c13
        refine lv_iload_n hx hb dX4_pass_16 rfl (lv_at hl 2 rfl) ?_
        refine lv_aload_n hx hb dX4_pass_17 rfl (lv_at hl 0 rfl) ?_
        refine va_get (D := G.1) (ci := 6) (v := .ref (ta G 0 (0))) (C := RX4) (T := TX4) (N := 3) hx hb hts (fun w9 h9 => List.mem_cons_of_mem _ (List.mem_append_left _ (List.mem_append_left _ (List.mem_append_left _ (List.mem_append_left _ (List.mem_append_right _ (h9))))))) hown hK hP (0) (cx_C G (z3 (oPn α nS nO nH k) β γ)) rfl 0 (by decide) (hts (.fieldLink RX4 10 "OrganCensus" "town" "LOrganCensus$Town;") (List.mem_of_getElem? (i := 1) rfl)) (fun _ h9 => h9) rfl dX4_pass_18 ?_
        have hP : va_P G.1 vwCl (tw G (z3 (oPn α nS nO nH k) β γ) 0 (oPn α nS nO nH k)) H := by rw [tz0]; exact hP
        refine o_cVmi (q0 := 1 + 67 * 0 + (0)) (ci := 5) [] [.int (oPs α nS nO nH k)] ⟨hx, hb, hml, hown, hts⟩ (m_X3_passHour l G (z3 (oPn α nS nO nH k) β γ) (show 0 < 2 by decide) hI (oPn α nS nO nH k) nS nO (nH + k) hz11_0) (cwV 0 hts gX4_pass_X3_passHour rfl rfl rfl (by decide +kernel) ⟨Nat.le_of_ble_eq_true rfl, Nat.le_of_ble_eq_true rfl⟩) hK hN hP hS rfl rfl (tw_T G (z3 (oPn α nS nO nH k) β γ) (show 0 < 2 by decide) (oPn α nS nO nH k)) rfl hl.1 rfl (Nat.le_of_ble_eq_true rfl) dX4_pass_21 ⟨Nat.zero_le _, Nat.zero_le _⟩ (fun H locs hP hS => ?_)
        have hP : va_P G.1 vwCl (cw G (z3 (oHour (oPn α nS nO nH k) nS nO (nH + k)) β γ)) H := by rw [tz0] at hP; exact hP
        refine lv_iadd hx hb dX4_pass_24 ?_
        refine lv_istore_n (lv' := [(2, .int ((oPs α nS nO nH k) + (oHourN (oPn α nS nO nH k) nS nO (nH + k)))), (0, .ref (G.2.1 0)), (1, .int x), (3, .int (nI k))]) hx hb dX4_pass_25 rfl hl (by decide) rfl (fun ls hl => ?_)
        refine lv_iinc (v := nI (k + 1)) (lv' := [(3, .int (nI (k + 1))), (2, .int ((oPs α nS nO nH k) + (oHourN (oPn α nS nO nH k) nS nO (nH + k)))), (0, .ref (G.2.1 0)), (1, .int x)]) hx hb dX4_pass_26 hl (k := 3) rfl (nI_1 k) (by decide) rfl (fun ls hl => ?_)
        refine lv_goto (tgt := 11) hx hb dX4_pass_29 (by decide) ?_
        exact ih11 (k + 1) (by omega) _ (rfl) _ (rfl) _ (rfl) _ _ hP hS ls (lv_sub hl [2, 3, 1, 0] rfl)
  exact lp11 (oN x) 0 (by omega) _ (rfl) _ (rfl) _ (rfl) _ _ hP hS ls (lv_sub hl [2, 3, 1, 0] rfl)
set_option maxHeartbeats 4000000 in
set_option maxRecDepth 100000 in
theorem m_X4_foresee (l : Launch) (G : oG) (hI : wl_I G.2.1 137) (α β γ : oT) (nS : Nat) (nO : Nat) (nH : Nat) (hz : oOK α nS nO nH) (x : Int32) (y : Int32) (h1 : oIn x nO = true) (h2 : oRg y 1 100 = true) (hb8 : oPi β) (hb9 : nH + 100 < 1000000) : Met l yX4_foresee wsX4_foresee ({ frames := 6, cells := 0, slots := 0, locals := 141 } : Room) (va_Pc [.ref (G.2.1 0), .int x, .int y] (PW G (cw G (z3 α β γ)))) (oQ (some (.int (oPn (oCpT β α nS nO) nS nO nH (oN y) 14 (oN x) 0 - oCpT β α nS nO 14 (oN x) 0))) (fun H9 => va_P G.1 vwCl (cw G (z3 α (oPn (oCpT β α nS nO) nS nO nH (oN y)) γ)) H9) (oA G)) 0 0 (oA G) := by
  refine o_body (cc := cX4_foresee) (by decide +kernel) rfl (Nat.le_of_ble_eq_true rfl) ?_
  intro p e s m below meth c ls hx hb hml hr hlocks hown hts hP hK hN hl
  have hown : s.vm.findClass RX4 = some m.cls := hown
  have hl : lv_has ls 3 [(0, .ref (G.2.1 0)), (1, .int x), (2, .int y)] := hl
  have hS : va_S (oA G) s.heap s.heap [] := va_S.rf
  obtain ⟨hz1, hz2, hz3, hz4, hz5, hz6, hz7⟩ := id hz
  have n1 := oIn_lt (by omega) h1
  have hr1 := oRg_1 h2
  have hx9 := oN_of (Int32.le_trans (show (0 : Int32) ≤ 1 by decide) hr1.1)
  have n2 : oN y ≤ 100 := (o_nle (y := (100 : Int32)) (b := 100) hx9 rfl oN_lt (by decide)).mp hr1.2
  refine lv_aload_n hx hb dX4_foresee_0 rfl (lv_at hl 0 rfl) ?_
  refine lv_iload_n hx hb dX4_foresee_1 rfl (lv_at hl 1 rfl) ?_
  refine o_cVv (q0 := 0) (ci := 6) [.int x] [] ⟨hx, hb, hml, hown, hts⟩ (m_X4_checkOrgan l G α β γ nS nO nH hz x (h1)) (cwV 1 hts gX4_foresee_X4_checkOrgan rfl rfl rfl (by decide +kernel) ⟨Nat.le_of_ble_eq_true rfl, Nat.le_of_ble_eq_true rfl⟩) hK hN hP rfl rfl (cx_C G (z3 α β γ)) rfl hl.1 rfl (Nat.le_of_ble_eq_true rfl) dX4_foresee_2 ⟨Nat.zero_le _, Nat.zero_le _⟩ ?_
  refine lv_iload_n hx hb dX4_foresee_5 rfl (lv_at hl 2 rfl) ?_
  refine lv_iconst (v := 1) hx hb dX4_foresee_6 (by decide) ?_
  refine lv_bipush (v := 100) hx hb dX4_foresee_7 (by decide) ?_
  refine o_cSv [.int y, .int 1, .int 100] [] ⟨hx, hb, hml, hown, hts⟩ (m_X4_checkRange l G α β γ y 1 100 (h2)) (va_cwS 3 hts gX4_foresee_X4_checkRange rfl rfl rfl (by decide +kernel) ⟨Nat.le_of_ble_eq_true rfl, Nat.le_of_ble_eq_true rfl⟩) hK hN hP rfl hl.1 rfl (Nat.le_of_ble_eq_true rfl) dX4_foresee_9 ⟨Nat.zero_le _, Nat.zero_le _⟩ ?_
  refine lv_aload_n hx hb dX4_foresee_12 rfl (lv_at hl 0 rfl) ?_
  refine va_get (D := G.1) (ci := 6) (v := .ref (ta G 1 (0))) (C := RX4) (T := TX4) (N := 3) hx hb hts (fun w9 h9 => List.mem_cons_of_mem _ (List.mem_append_left _ (List.mem_append_left _ (List.mem_append_left _ (List.mem_append_left _ (List.mem_append_left _ (List.mem_append_right _ (h9)))))))) hown hK hP (0) (cx_C G (z3 α β γ)) rfl 1 (by decide) (hts (.fieldLink RX4 16 "OrganCensus" "trial" "LOrganCensus$Town;") (List.mem_of_getElem? (i := 1) rfl)) (fun _ h9 => h9) rfl dX4_foresee_13 ?_
  refine lv_aload_n hx hb dX4_foresee_16 rfl (lv_at hl 0 rfl) ?_
  refine va_get (D := G.1) (ci := 6) (v := .ref (ta G 0 (0))) (C := RX4) (T := TX4) (N := 3) hx hb hts (fun w9 h9 => List.mem_cons_of_mem _ (List.mem_append_left _ (List.mem_append_left _ (List.mem_append_left _ (List.mem_append_left _ (List.mem_append_left _ (List.mem_append_right _ (h9)))))))) hown hK hP (0) (cx_C G (z3 α β γ)) rfl 0 (by decide) (hts (.fieldLink RX4 10 "OrganCensus" "town" "LOrganCensus$Town;") (List.mem_of_getElem? (i := 2) rfl)) (fun _ h9 => h9) rfl dX4_foresee_17 ?_
  have hP : va_P G.1 vwCl (tw G (z3 α β γ) 1 β) s.heap := by rw [tz1]; exact hP
  refine o_cVmv (q0 := 1 + 67 * 1 + (0)) (ci := 5) [.ref (ta G 0 (0))] [] ⟨hx, hb, hml, hown, hts⟩ (m_X3_copyFrom l G (z3 α β γ) (show 1 < 2 by decide) (show 0 < 2 by decide) (show 0 ≠ 1 by decide) hI β nS nO (oOK.sz hz)) (cwV 1 hts gX4_foresee_X3_copyFrom rfl rfl rfl (by decide +kernel) ⟨Nat.le_of_ble_eq_true rfl, Nat.le_of_ble_eq_true rfl⟩) hK hN hP hS rfl rfl (tw_T G (z3 α β γ) (show 1 < 2 by decide) β) rfl hl.1 rfl (Nat.le_of_ble_eq_true rfl) dX4_foresee_20 ⟨Nat.zero_le _, Nat.zero_le _⟩ (fun H locs hP hS => ?_)
  have hP : va_P G.1 vwCl (cw G (z3 α (oCpT β (α) nS nO) γ)) H := by rw [tz1] at hP; exact hP
  have hz20_1 : oOK (oCpT β (α) nS nO) nS nO nH := oCpT_ok hz hb8
  refine lv_aload_n hx hb dX4_foresee_23 rfl (lv_at hl 0 rfl) ?_
  refine va_get (D := G.1) (ci := 6) (v := .ref (ta G 1 (0))) (C := RX4) (T := TX4) (N := 3) hx hb hts (fun w9 h9 => List.mem_cons_of_mem _ (List.mem_append_left _ (List.mem_append_left _ (List.mem_append_left _ (List.mem_append_left _ (List.mem_append_left _ (List.mem_append_right _ (h9)))))))) hown hK hP (0) (cx_C G (z3 α (oCpT β (α) nS nO) γ)) rfl 1 (by decide) (hts (.fieldLink RX4 16 "OrganCensus" "trial" "LOrganCensus$Town;") (List.mem_of_getElem? (i := 1) rfl)) (fun _ h9 => h9) rfl dX4_foresee_24 ?_
  refine lv_iload_n hx hb dX4_foresee_27 rfl (lv_at hl 1 rfl) ?_
  refine lv_iload_n hx hb dX4_foresee_28 rfl (lv_at hl 2 rfl) ?_
  have hP : va_P G.1 vwCl (tw G (z3 α (oCpT β (α) nS nO) γ) 1 (oCpT β (α) nS nO)) H := by rw [tz1]; exact hP
  refine o_cVmi (q0 := 1 + 67 * 1 + (0)) (ci := 5) [.int x, .int y] [] ⟨hx, hb, hml, hown, hts⟩ (m_X3_coinsGot l G (z3 α (oCpT β (α) nS nO) γ) (show 1 < 2 by decide) hI (oCpT β (α) nS nO) nS nO nH hz20_1 (oN x) x ((oIn_x h1)) (by omega) (oN y) y (hx9) (by omega)) (cwV 2 hts gX4_foresee_X3_coinsGot rfl rfl rfl (by decide +kernel) ⟨Nat.le_of_ble_eq_true rfl, Nat.le_of_ble_eq_true rfl⟩) hK hN hP hS rfl rfl (tw_T G (z3 α (oCpT β (α) nS nO) γ) (show 1 < 2 by decide) (oCpT β (α) nS nO)) rfl hl.1 rfl (Nat.le_of_ble_eq_true rfl) dX4_foresee_29 ⟨Nat.zero_le _, Nat.zero_le _⟩ (fun H locs hP hS => ?_)
  have hP : va_P G.1 vwCl (cw G (z3 α (oPn (oCpT β (α) nS nO) nS nO nH (oN y)) γ)) H := by rw [tz1] at hP; exact hP
  exact o_iretM hx hb hr hlocks hS dX4_foresee_32 (hP) (rfl)
set_option maxHeartbeats 4000000 in
set_option maxRecDepth 100000 in
theorem m_X4_advise (l : Launch) (G : oG) (hI : wl_I G.2.1 137) (α β γ : oT) (nS : Nat) (nO : Nat) (nH : Nat) (hz : oOK α nS nO nH) (x : Int32) (y : Int32) (z : Int32) (h1 : oIn x nO = true) (h2 : oIn y nS = true) (h3 : oRg z 1 24 = true) (hb8 : oPi β) (hb9 : nH + 100 < 1000000) : Met l yX4_advise wsX4_advise ({ frames := 6, cells := 0, slots := 0, locals := 141 } : Room) (va_Pc [.ref (G.2.1 0), .int x, .int y, .int z] (PW G (cw G (z3 α β γ)))) (oQ (some (.int ((kAv α β nS nO nH (oN x) y (oN z) (oNp α (oN y))).2.1))) (fun H9 => va_P G.1 vwCl (cw G (z3 α ((kAv α β nS nO nH (oN x) y (oN z) (oNp α (oN y))).1) γ)) H9) (oA G)) 0 0 (oA G) := by
  refine o_body (cc := cX4_advise) (by decide +kernel) rfl (Nat.le_of_ble_eq_true rfl) ?_
  intro p e s m below meth c ls hx hb hml hr hlocks hown hts hP hK hN hl
  have hown : s.vm.findClass RX4 = some m.cls := hown
  have hl : lv_has ls 8 [(0, .ref (G.2.1 0)), (1, .int x), (2, .int y), (3, .int z)] := hl
  have hS : va_S (oA G) s.heap s.heap [] := va_S.rf
  obtain ⟨hz1, hz2, hz3, hz4, hz5, hz6, hz7⟩ := id hz
  have n1 := oIn_lt (by omega) h1
  have n2 := oIn_lt (by omega) h2
  have hr1 := oRg_1 h3
  have hx9 := oN_of (Int32.le_trans (show (0 : Int32) ≤ 1 by decide) hr1.1)
  have n3 : oN z ≤ 24 := (o_nle (y := (24 : Int32)) (b := 24) hx9 rfl oN_lt (by decide)).mp hr1.2
  have hp20 := (hz7 (oN y) (by omega)).2
  refine lv_aload_n hx hb dX4_advise_0 rfl (lv_at hl 0 rfl) ?_
  refine lv_iload_n hx hb dX4_advise_1 rfl (lv_at hl 1 rfl) ?_
  refine o_cVv (q0 := 0) (ci := 6) [.int x] [] ⟨hx, hb, hml, hown, hts⟩ (m_X4_checkOrgan l G α β γ nS nO nH hz x (h1)) (cwV 1 hts gX4_advise_X4_checkOrgan rfl rfl rfl (by decide +kernel) ⟨Nat.le_of_ble_eq_true rfl, Nat.le_of_ble_eq_true rfl⟩) hK hN hP rfl rfl (cx_C G (z3 α β γ)) rfl hl.1 rfl (Nat.le_of_ble_eq_true rfl) dX4_advise_2 ⟨Nat.zero_le _, Nat.zero_le _⟩ ?_
  refine lv_aload_n hx hb dX4_advise_5 rfl (lv_at hl 0 rfl) ?_
  refine lv_iload_n hx hb dX4_advise_6 rfl (lv_at hl 2 rfl) ?_
  refine o_cVv (q0 := 0) (ci := 6) [.int y] [] ⟨hx, hb, hml, hown, hts⟩ (m_X4_checkStreet l G α β γ nS nO nH hz y (h2)) (cwV 1 hts gX4_advise_X4_checkStreet rfl rfl rfl (by decide +kernel) ⟨Nat.le_of_ble_eq_true rfl, Nat.le_of_ble_eq_true rfl⟩) hK hN hP rfl rfl (cx_C G (z3 α β γ)) rfl hl.1 rfl (Nat.le_of_ble_eq_true rfl) dX4_advise_7 ⟨Nat.zero_le _, Nat.zero_le _⟩ ?_
  refine lv_iload_n hx hb dX4_advise_10 rfl (lv_at hl 3 rfl) ?_
  refine lv_iconst (v := 1) hx hb dX4_advise_11 (by decide) ?_
  refine lv_bipush (v := 24) hx hb dX4_advise_12 (by decide) ?_
  refine o_cSv [.int z, .int 1, .int 24] [] ⟨hx, hb, hml, hown, hts⟩ (m_X4_checkRange l G α β γ z 1 24 (h3)) (va_cwS 3 hts gX4_advise_X4_checkRange rfl rfl rfl (by decide +kernel) ⟨Nat.le_of_ble_eq_true rfl, Nat.le_of_ble_eq_true rfl⟩) hK hN hP rfl hl.1 rfl (Nat.le_of_ble_eq_true rfl) dX4_advise_14 ⟨Nat.zero_le _, Nat.zero_le _⟩ ?_
  refine lv_iconst (v := 0) hx hb dX4_advise_17 (by decide) ?_
  refine lv_istore (lv' := [(4, .int 0), (0, .ref (G.2.1 0)), (1, .int x), (2, .int y), (3, .int z)]) hx hb dX4_advise_18 hl (by decide) rfl (fun ls hl => ?_)
  refine lv_iconst (v := (-1)) hx hb dX4_advise_20 (by decide) ?_
  refine lv_istore (lv' := [(5, .int ((-1))), (4, .int 0), (0, .ref (G.2.1 0)), (1, .int x), (2, .int y), (3, .int z)]) hx hb dX4_advise_21 hl (by decide) rfl (fun ls hl => ?_)
  refine lv_iconst (v := 0) hx hb dX4_advise_23 (by decide) ?_
  refine lv_istore (lv' := [(6, .int 0), (5, .int ((-1))), (4, .int 0), (0, .ref (G.2.1 0)), (1, .int x), (2, .int y), (3, .int z)]) hx hb dX4_advise_24 hl (by decide) rfl (fun ls hl => ?_)
  have lp26 : ∀ (d26 k : Nat), k + d26 = oNp α (oN y) → ∀ x26_4 : Int32, x26_4 = ((kAv α β nS nO nH (oN x) y (oN z) k).2.1) → ∀ x26_5 : Int32, x26_5 = ((kAv α β nS nO nH (oN x) y (oN z) k).2.2) → ∀ x26_6 : Int32, x26_6 = (nI k) → ∀ (τ26 : oZ), τ26 = (z3 α ((kAv α β nS nO nH (oN x) y (oN z) k).1) γ) → ∀ (H : Heap) (locs : List Loc), va_P G.1 vwCl (cw G τ26) H → va_S (oA G) s.heap H locs → ∀ ls : Array Slot, lv_has ls 8 [(0, .ref (G.2.1 0)), (1, .int x), (2, .int y), (3, .int z), (4, .int x26_4), (5, .int x26_5), (6, .int x26_6)] → W p l e ({ frames := 6, cells := 0, slots := 0, locals := 141 } : Room) s m ([.ref (G.2.1 0), .int x, .int y, .int z] : List Value).toArray below meth c H locs 0 0 (MQ below (oQ (some (.int ((kAv α β nS nO nH (oN x) y (oN z) (oNp α (oN y))).2.1))) (fun H9 => va_P G.1 vwCl (cw G (z3 α ((kAv α β nS nO nH (oN x) y (oN z) (oNp α (oN y))).1) γ)) H9) (oA G)) ([.ref (G.2.1 0), .int x, .int y, .int z] : List Value).toArray s 0 0 (oA G)) (F0 m 26 ls []) := by
    intro d26
    induction d26 with
    | zero =>
      intro k hk26 x26_4 e26_4 x26_5 e26_5 x26_6 e26_6 τ26 eτ26 H locs hP hS ls hl
      subst e26_4
      subst e26_5
      subst e26_6
      subst eτ26
      have hk26 : k = oNp α (oN y) := by omega
      refine lv_iload hx hb dX4_advise_26 (lv_at hl 6 rfl) ?_
      refine lv_aload_n hx hb dX4_advise_28 rfl (lv_at hl 0 rfl) ?_
      refine va_get (D := G.1) (ci := 6) (v := .ref (ta G 0 (0))) (C := RX4) (T := TX4) (N := 3) hx hb hts (fun w9 h9 => List.mem_cons_of_mem _ (List.mem_append_left _ (List.mem_append_left _ (List.mem_append_left _ (List.mem_append_left _ (List.mem_append_left _ (List.mem_append_right _ (h9)))))))) hown hK hP (0) (cx_C G (z3 α ((kAv α β nS nO nH (oN x) y (oN z) k).1) γ)) rfl 0 (by decide) (hts (.fieldLink RX4 10 "OrganCensus" "town" "LOrganCensus$Town;") (List.mem_of_getElem? (i := 1) rfl)) (fun _ h9 => h9) rfl dX4_advise_29 ?_
      refine va_get (D := G.1) (ci := 5) (v := .ref (ta G 0 (1))) (C := RX3) (T := TX3) (N := 5) hx hb hts (fun w9 h9 => List.mem_cons_of_mem _ (List.mem_append_left _ (List.mem_append_left _ (List.mem_append_left _ (List.mem_append_left _ (List.mem_append_right _ (h9))))))) hown hK hP (1 + 67 * 0 + (0)) (cx_T G (z3 α ((kAv α β nS nO nH (oN x) y (oN z) k).1) γ) (show 0 < 2 by decide)) rfl 0 (by decide) (hts (.fieldLink RX4 53 "OrganCensus$Town" "streets" "[LOrganCensus$Street;") (List.mem_of_getElem? (i := 2) rfl)) (fun _ h9 => h9) rfl dX4_advise_32 ?_
      refine lv_iload_n hx hb dX4_advise_35 rfl (lv_at hl 2 rfl) ?_
      refine o_aald (k := oN y) (C := RX2) hx hb hK hP (1 + 67 * 0 + (1)) 1 (cx_SA G (z3 α ((kAv α β nS nO nH (oN x) y (oN z) k).1) γ) (show 0 < 2 by decide)) rfl (oIn_x h2) (by omega) (by decide) rfl dX4_advise_36 ?_
      refine va_get (D := G.1) (ci := 4) (v := .int (α 3 (oN y) 0)) (C := RX2) (T := TX2) (N := 6) hx hb hts (fun w9 h9 => List.mem_cons_of_mem _ (List.mem_append_left _ (List.mem_append_left _ (List.mem_append_left _ (List.mem_append_right _ (h9)))))) hown hK hP (1 + 67 * 0 + (3 + 4 * (oN y))) (cx_S G (z3 α ((kAv α β nS nO nH (oN x) y (oN z) k).1) γ) (show 0 < 2 by decide) (by omega)) rfl 3 (by decide) (hts (.fieldLink RX4 143 "OrganCensus$Street" "pitches" "I") (List.mem_of_getElem? (i := 3) rfl)) (fun _ h9 => h9) rfl dX4_advise_37 ?_
      refine lv_icmp_ge (tgt := 102) hx hb dX4_advise_40 (by decide) (fun c40 => ?_) (fun c40 => ?_)
      · have n40 := (o_nle (a := oNp α (oN y)) (b := k) (hz.2.2.2.2.2.2 (oN y) (by omega)).1 rfl (by omega) (by omega)).mp c40
        refine lv_iload hx hb dX4_advise_102 (lv_at hl 4 rfl) ?_
        exact o_iretM hx hb hr hlocks hS dX4_advise_104 (by subst hk26; exact hP) (by subst hk26; rfl)
      · have n40 := (mt (o_nle (a := oNp α (oN y)) (b := k) (hz.2.2.2.2.2.2 (oN y) (by omega)).1 rfl (by omega) (by omega)).mpr) c40; omega
    | succ d26 ih26 =>
      intro k hk26 x26_4 e26_4 x26_5 e26_5 x26_6 e26_6 τ26 eτ26 H locs hP hS ls hl
      subst e26_4
      subst e26_5
      subst e26_6
      subst eτ26
      have hj26 : k < oNp α (oN y) := by omega
      refine lv_iload hx hb dX4_advise_26 (lv_at hl 6 rfl) ?_
      refine lv_aload_n hx hb dX4_advise_28 rfl (lv_at hl 0 rfl) ?_
      refine va_get (D := G.1) (ci := 6) (v := .ref (ta G 0 (0))) (C := RX4) (T := TX4) (N := 3) hx hb hts (fun w9 h9 => List.mem_cons_of_mem _ (List.mem_append_left _ (List.mem_append_left _ (List.mem_append_left _ (List.mem_append_left _ (List.mem_append_left _ (List.mem_append_right _ (h9)))))))) hown hK hP (0) (cx_C G (z3 α ((kAv α β nS nO nH (oN x) y (oN z) k).1) γ)) rfl 0 (by decide) (hts (.fieldLink RX4 10 "OrganCensus" "town" "LOrganCensus$Town;") (List.mem_of_getElem? (i := 1) rfl)) (fun _ h9 => h9) rfl dX4_advise_29 ?_
      refine va_get (D := G.1) (ci := 5) (v := .ref (ta G 0 (1))) (C := RX3) (T := TX3) (N := 5) hx hb hts (fun w9 h9 => List.mem_cons_of_mem _ (List.mem_append_left _ (List.mem_append_left _ (List.mem_append_left _ (List.mem_append_left _ (List.mem_append_right _ (h9))))))) hown hK hP (1 + 67 * 0 + (0)) (cx_T G (z3 α ((kAv α β nS nO nH (oN x) y (oN z) k).1) γ) (show 0 < 2 by decide)) rfl 0 (by decide) (hts (.fieldLink RX4 53 "OrganCensus$Town" "streets" "[LOrganCensus$Street;") (List.mem_of_getElem? (i := 2) rfl)) (fun _ h9 => h9) rfl dX4_advise_32 ?_
      refine lv_iload_n hx hb dX4_advise_35 rfl (lv_at hl 2 rfl) ?_
      refine o_aald (k := oN y) (C := RX2) hx hb hK hP (1 + 67 * 0 + (1)) 1 (cx_SA G (z3 α ((kAv α β nS nO nH (oN x) y (oN z) k).1) γ) (show 0 < 2 by decide)) rfl (oIn_x h2) (by omega) (by decide) rfl dX4_advise_36 ?_
      refine va_get (D := G.1) (ci := 4) (v := .int (α 3 (oN y) 0)) (C := RX2) (T := TX2) (N := 6) hx hb hts (fun w9 h9 => List.mem_cons_of_mem _ (List.mem_append_left _ (List.mem_append_left _ (List.mem_append_left _ (List.mem_append_right _ (h9)))))) hown hK hP (1 + 67 * 0 + (3 + 4 * (oN y))) (cx_S G (z3 α ((kAv α β nS nO nH (oN x) y (oN z) k).1) γ) (show 0 < 2 by decide) (by omega)) rfl 3 (by decide) (hts (.fieldLink RX4 143 "OrganCensus$Street" "pitches" "I") (List.mem_of_getElem? (i := 3) rfl)) (fun _ h9 => h9) rfl dX4_advise_37 ?_
      refine lv_icmp_ge (tgt := 102) hx hb dX4_advise_40 (by decide) (fun c40 => ?_) (fun c40 => ?_)
      · have n40 := (o_nle (a := oNp α (oN y)) (b := k) (hz.2.2.2.2.2.2 (oN y) (by omega)).1 rfl (by omega) (by omega)).mp c40; omega
      · have n40 := (mt (o_nle (a := oNp α (oN y)) (b := k) (hz.2.2.2.2.2.2 (oN y) (by omega)).1 rfl (by omega) (by omega)).mpr) c40
        refine lv_aload_n hx hb dX4_advise_43 rfl (lv_at hl 0 rfl) ?_
        refine va_get (D := G.1) (ci := 6) (v := .ref (ta G 1 (0))) (C := RX4) (T := TX4) (N := 3) hx hb hts (fun w9 h9 => List.mem_cons_of_mem _ (List.mem_append_left _ (List.mem_append_left _ (List.mem_append_left _ (List.mem_append_left _ (List.mem_append_left _ (List.mem_append_right _ (h9)))))))) hown hK hP (0) (cx_C G (z3 α ((kAv α β nS nO nH (oN x) y (oN z) k).1) γ)) rfl 1 (by decide) (hts (.fieldLink RX4 16 "OrganCensus" "trial" "LOrganCensus$Town;") (List.mem_of_getElem? (i := 4) rfl)) (fun _ h9 => h9) rfl dX4_advise_44 ?_
        refine lv_aload_n hx hb dX4_advise_47 rfl (lv_at hl 0 rfl) ?_
        refine va_get (D := G.1) (ci := 6) (v := .ref (ta G 0 (0))) (C := RX4) (T := TX4) (N := 3) hx hb hts (fun w9 h9 => List.mem_cons_of_mem _ (List.mem_append_left _ (List.mem_append_left _ (List.mem_append_left _ (List.mem_append_left _ (List.mem_append_left _ (List.mem_append_right _ (h9)))))))) hown hK hP (0) (cx_C G (z3 α ((kAv α β nS nO nH (oN x) y (oN z) k).1) γ)) rfl 0 (by decide) (hts (.fieldLink RX4 10 "OrganCensus" "town" "LOrganCensus$Town;") (List.mem_of_getElem? (i := 1) rfl)) (fun _ h9 => h9) rfl dX4_advise_48 ?_
        have hP : va_P G.1 vwCl (tw G (z3 α ((kAv α β nS nO nH (oN x) y (oN z) k).1) γ) 1 ((kAv α β nS nO nH (oN x) y (oN z) k).1)) H := by rw [tz1]; exact hP
        refine o_cVmv (q0 := 1 + 67 * 1 + (0)) (ci := 5) [.ref (ta G 0 (0))] [] ⟨hx, hb, hml, hown, hts⟩ (m_X3_copyFrom l G (z3 α ((kAv α β nS nO nH (oN x) y (oN z) k).1) γ) (show 1 < 2 by decide) (show 0 < 2 by decide) (show 0 ≠ 1 by decide) hI ((kAv α β nS nO nH (oN x) y (oN z) k).1) nS nO (oOK.sz hz)) (cwV 1 hts gX4_advise_X3_copyFrom rfl rfl rfl (by decide +kernel) ⟨Nat.le_of_ble_eq_true rfl, Nat.le_of_ble_eq_true rfl⟩) hK hN hP hS rfl rfl (tw_T G (z3 α ((kAv α β nS nO nH (oN x) y (oN z) k).1) γ) (show 1 < 2 by decide) ((kAv α β nS nO nH (oN x) y (oN z) k).1)) rfl hl.1 rfl (Nat.le_of_ble_eq_true rfl) dX4_advise_51 ⟨Nat.zero_le _, Nat.zero_le _⟩ (fun H locs hP hS => ?_)
        have hP : va_P G.1 vwCl (cw G (z3 α (oCpT ((kAv α β nS nO nH (oN x) y (oN z) k).1) (α) nS nO) γ)) H := by rw [tz1] at hP; exact hP
        have hz51_1 : oOK (oCpT ((kAv α β nS nO nH (oN x) y (oN z) k).1) (α) nS nO) nS nO nH := oCpT_ok hz (kAv_pi hz hb8 (by omega) k)
        refine lv_aload_n hx hb dX4_advise_54 rfl (lv_at hl 0 rfl) ?_
        refine va_get (D := G.1) (ci := 6) (v := .ref (ta G 1 (0))) (C := RX4) (T := TX4) (N := 3) hx hb hts (fun w9 h9 => List.mem_cons_of_mem _ (List.mem_append_left _ (List.mem_append_left _ (List.mem_append_left _ (List.mem_append_left _ (List.mem_append_left _ (List.mem_append_right _ (h9)))))))) hown hK hP (0) (cx_C G (z3 α (oCpT ((kAv α β nS nO nH (oN x) y (oN z) k).1) (α) nS nO) γ)) rfl 1 (by decide) (hts (.fieldLink RX4 16 "OrganCensus" "trial" "LOrganCensus$Town;") (List.mem_of_getElem? (i := 4) rfl)) (fun _ h9 => h9) rfl dX4_advise_55 ?_
        refine va_get (D := G.1) (ci := 5) (v := .ref (ta G 1 (2))) (C := RX3) (T := TX3) (N := 5) hx hb hts (fun w9 h9 => List.mem_cons_of_mem _ (List.mem_append_left _ (List.mem_append_left _ (List.mem_append_left _ (List.mem_append_left _ (List.mem_append_right _ (h9))))))) hown hK hP (1 + 67 * 1 + (0)) (cx_T G (z3 α (oCpT ((kAv α β nS nO nH (oN x) y (oN z) k).1) (α) nS nO) γ) (show 1 < 2 by decide)) rfl 1 (by decide) (hts (.fieldLink RX4 97 "OrganCensus$Town" "organs" "[LOrganCensus$Organ;") (List.mem_of_getElem? (i := 5) rfl)) (fun _ h9 => h9) rfl dX4_advise_58 ?_
        refine lv_iload_n hx hb dX4_advise_61 rfl (lv_at hl 1 rfl) ?_
        refine o_aald (k := oN x) (C := RX0) hx hb hK hP (1 + 67 * 1 + (2)) 2 (cx_OA G (z3 α (oCpT ((kAv α β nS nO nH (oN x) y (oN z) k).1) (α) nS nO) γ) (show 1 < 2 by decide)) rfl (oIn_x h1) (by omega) (by decide) rfl dX4_advise_62 ?_
        refine lv_iload_n hx hb dX4_advise_63 rfl (lv_at hl 2 rfl) ?_
        refine lv_iload hx hb dX4_advise_64 (lv_at hl 6 rfl) ?_
        refine lv_iconst (v := 0) hx hb dX4_advise_66 (by decide) ?_
        have hP : va_P G.1 vwCl (tw G (z3 α (oCpT ((kAv α β nS nO nH (oN x) y (oN z) k).1) (α) nS nO) γ) 1 (oCpT ((kAv α β nS nO nH (oN x) y (oN z) k).1) (α) nS nO)) H := by rw [tz1]; exact hP
        refine o_cVmv (q0 := 1 + 67 * 1 + (27 + 5 * (oN x))) (ci := 2) [.int y, .int (nI k), .int 0] [] ⟨hx, hb, hml, hown, hts⟩ (m_X0_moveTo l G (z3 α (oCpT ((kAv α β nS nO nH (oN x) y (oN z) k).1) (α) nS nO) γ) (show 1 < 2 by decide) hI (oCpT ((kAv α β nS nO nH (oN x) y (oN z) k).1) (α) nS nO) (oN x) (by omega) y (nI k) 0) (cwV 3 hts gX4_advise_X0_moveTo rfl rfl rfl (by decide +kernel) ⟨Nat.le_of_ble_eq_true rfl, Nat.le_of_ble_eq_true rfl⟩) hK hN hP hS rfl rfl (tw_O G (z3 α (oCpT ((kAv α β nS nO nH (oN x) y (oN z) k).1) (α) nS nO) γ) (show 1 < 2 by decide) (oCpT ((kAv α β nS nO nH (oN x) y (oN z) k).1) (α) nS nO) (by omega)) rfl hl.1 rfl (Nat.le_of_ble_eq_true rfl) dX4_advise_67 ⟨Nat.zero_le _, Nat.zero_le _⟩ (fun H locs hP hS => ?_)
        have hP : va_P G.1 vwCl (cw G (z3 α (oMove (oCpT ((kAv α β nS nO nH (oN x) y (oN z) k).1) (α) nS nO) (oN x) y (nI k) 0) γ)) H := by rw [tz1] at hP; exact hP
        have hz67_1 : oOK (oMove (oCpT ((kAv α β nS nO nH (oN x) y (oN z) k).1) (α) nS nO) (oN x) y (nI k) 0) nS nO nH := hz51_1.of (oMove_kp _ _ _ _ _)
        refine lv_aload_n hx hb dX4_advise_70 rfl (lv_at hl 0 rfl) ?_
        refine va_get (D := G.1) (ci := 6) (v := .ref (ta G 1 (0))) (C := RX4) (T := TX4) (N := 3) hx hb hts (fun w9 h9 => List.mem_cons_of_mem _ (List.mem_append_left _ (List.mem_append_left _ (List.mem_append_left _ (List.mem_append_left _ (List.mem_append_left _ (List.mem_append_right _ (h9)))))))) hown hK hP (0) (cx_C G (z3 α (oMove (oCpT ((kAv α β nS nO nH (oN x) y (oN z) k).1) (α) nS nO) (oN x) y (nI k) 0) γ)) rfl 1 (by decide) (hts (.fieldLink RX4 16 "OrganCensus" "trial" "LOrganCensus$Town;") (List.mem_of_getElem? (i := 4) rfl)) (fun _ h9 => h9) rfl dX4_advise_71 ?_
        refine lv_iload_n hx hb dX4_advise_74 rfl (lv_at hl 1 rfl) ?_
        refine lv_iload_n hx hb dX4_advise_75 rfl (lv_at hl 3 rfl) ?_
        have hP : va_P G.1 vwCl (tw G (z3 α (oMove (oCpT ((kAv α β nS nO nH (oN x) y (oN z) k).1) (α) nS nO) (oN x) y (nI k) 0) γ) 1 (oMove (oCpT ((kAv α β nS nO nH (oN x) y (oN z) k).1) (α) nS nO) (oN x) y (nI k) 0)) H := by rw [tz1]; exact hP
        refine o_cVmi (q0 := 1 + 67 * 1 + (0)) (ci := 5) [.int x, .int z] [] ⟨hx, hb, hml, hown, hts⟩ (m_X3_coinsGot l G (z3 α (oMove (oCpT ((kAv α β nS nO nH (oN x) y (oN z) k).1) (α) nS nO) (oN x) y (nI k) 0) γ) (show 1 < 2 by decide) hI (oMove (oCpT ((kAv α β nS nO nH (oN x) y (oN z) k).1) (α) nS nO) (oN x) y (nI k) 0) nS nO nH hz67_1 (oN x) x ((oIn_x h1)) (by omega) (oN z) z (hx9) (by omega)) (cwV 2 hts gX4_advise_X3_coinsGot rfl rfl rfl (by decide +kernel) ⟨Nat.le_of_ble_eq_true rfl, Nat.le_of_ble_eq_true rfl⟩) hK hN hP hS rfl rfl (tw_T G (z3 α (oMove (oCpT ((kAv α β nS nO nH (oN x) y (oN z) k).1) (α) nS nO) (oN x) y (nI k) 0) γ) (show 1 < 2 by decide) (oMove (oCpT ((kAv α β nS nO nH (oN x) y (oN z) k).1) (α) nS nO) (oN x) y (nI k) 0)) rfl hl.1 rfl (Nat.le_of_ble_eq_true rfl) dX4_advise_76 ⟨Nat.zero_le _, Nat.zero_le _⟩ (fun H locs hP hS => ?_)
        have hP : va_P G.1 vwCl (cw G (z3 α (oPn (oMove (oCpT ((kAv α β nS nO nH (oN x) y (oN z) k).1) (α) nS nO) (oN x) y (nI k) 0) nS nO nH (oN z)) γ)) H := by rw [tz1] at hP; exact hP
        refine lv_istore (lv' := [(7, .int (oPn (oMove (oCpT ((kAv α β nS nO nH (oN x) y (oN z) k).1) (α) nS nO) (oN x) y (nI k) 0) nS nO nH (oN z) 14 (oN x) 0 - (oMove (oCpT ((kAv α β nS nO nH (oN x) y (oN z) k).1) (α) nS nO) (oN x) y (nI k) 0) 14 (oN x) 0)), (0, .ref (G.2.1 0)), (1, .int x), (2, .int y), (3, .int z), (4, .int ((kAv α β nS nO nH (oN x) y (oN z) k).2.1)), (5, .int ((kAv α β nS nO nH (oN x) y (oN z) k).2.2)), (6, .int (nI k))]) hx hb dX4_advise_79 hl (by decide) rfl (fun ls hl => ?_)
        refine lv_iload hx hb dX4_advise_81 (lv_at hl 0 rfl) ?_
        refine lv_iload hx hb dX4_advise_83 (lv_at hl 6 rfl) ?_
        refine lv_icmp_le (tgt := 96) hx hb dX4_advise_85 (by decide) (fun c85 => ?_) (fun c85 => ?_)
        · have c85 : ¬ (kAv α β nS nO nH (oN x) y (oN z) k).2.2 < (oPn (oMove (oCpT (kAv α β nS nO nH (oN x) y (oN z) k).1 α nS nO) (oN x) y (nI k) 0) nS nO nH (oN z) 14 (oN x) 0 - (oMove (oCpT (kAv α β nS nO nH (oN x) y (oN z) k).1 α nS nO) (oN x) y (nI k) 0) 14 (oN x) 0) := by first | exact c85 | exact Int32.not_lt.mpr c85
          refine lv_iinc (v := nI (k + 1)) (lv' := [(6, .int (nI (k + 1))), (7, .int (oPn (oMove (oCpT ((kAv α β nS nO nH (oN x) y (oN z) k).1) (α) nS nO) (oN x) y (nI k) 0) nS nO nH (oN z) 14 (oN x) 0 - (oMove (oCpT ((kAv α β nS nO nH (oN x) y (oN z) k).1) (α) nS nO) (oN x) y (nI k) 0) 14 (oN x) 0)), (0, .ref (G.2.1 0)), (1, .int x), (2, .int y), (3, .int z), (4, .int ((kAv α β nS nO nH (oN x) y (oN z) k).2.1)), (5, .int ((kAv α β nS nO nH (oN x) y (oN z) k).2.2))]) hx hb dX4_advise_96 hl (k := 7) rfl (nI_1 k) (by decide) rfl (fun ls hl => ?_)
          refine lv_goto (tgt := 26) hx hb dX4_advise_99 (by decide) ?_
          exact ih26 (k + 1) (by omega) _ (by simp only [kAv, c40, n40, c85, if_true, if_false, reduceIte]; try rfl) _ (by simp only [kAv, c40, n40, c85, if_true, if_false, reduceIte]; try rfl) _ (rfl) _ (by simp only [kAv, c40, n40, c85, if_true, if_false, reduceIte]; try rfl) _ _ hP hS ls (lv_sub hl [2, 3, 4, 5, 6, 7, 0] rfl)
        · have c85 : (kAv α β nS nO nH (oN x) y (oN z) k).2.2 < (oPn (oMove (oCpT (kAv α β nS nO nH (oN x) y (oN z) k).1 α nS nO) (oN x) y (nI k) 0) nS nO nH (oN z) 14 (oN x) 0 - (oMove (oCpT (kAv α β nS nO nH (oN x) y (oN z) k).1 α nS nO) (oN x) y (nI k) 0) 14 (oN x) 0) := by first | exact c85 | exact Int32.not_le.mp c85
          refine lv_iload hx hb dX4_advise_88 (lv_at hl 0 rfl) ?_
          refine lv_istore (lv' := [(5, .int (oPn (oMove (oCpT ((kAv α β nS nO nH (oN x) y (oN z) k).1) (α) nS nO) (oN x) y (nI k) 0) nS nO nH (oN z) 14 (oN x) 0 - (oMove (oCpT ((kAv α β nS nO nH (oN x) y (oN z) k).1) (α) nS nO) (oN x) y (nI k) 0) 14 (oN x) 0)), (7, .int (oPn (oMove (oCpT ((kAv α β nS nO nH (oN x) y (oN z) k).1) (α) nS nO) (oN x) y (nI k) 0) nS nO nH (oN z) 14 (oN x) 0 - (oMove (oCpT ((kAv α β nS nO nH (oN x) y (oN z) k).1) (α) nS nO) (oN x) y (nI k) 0) 14 (oN x) 0)), (0, .ref (G.2.1 0)), (1, .int x), (2, .int y), (3, .int z), (4, .int ((kAv α β nS nO nH (oN x) y (oN z) k).2.1)), (6, .int (nI k))]) hx hb dX4_advise_90 hl (by decide) rfl (fun ls hl => ?_)
          refine lv_iload hx hb dX4_advise_92 (lv_at hl 7 rfl) ?_
          refine lv_istore (lv' := [(4, .int (nI k)), (5, .int (oPn (oMove (oCpT ((kAv α β nS nO nH (oN x) y (oN z) k).1) (α) nS nO) (oN x) y (nI k) 0) nS nO nH (oN z) 14 (oN x) 0 - (oMove (oCpT ((kAv α β nS nO nH (oN x) y (oN z) k).1) (α) nS nO) (oN x) y (nI k) 0) 14 (oN x) 0)), (7, .int (oPn (oMove (oCpT ((kAv α β nS nO nH (oN x) y (oN z) k).1) (α) nS nO) (oN x) y (nI k) 0) nS nO nH (oN z) 14 (oN x) 0 - (oMove (oCpT ((kAv α β nS nO nH (oN x) y (oN z) k).1) (α) nS nO) (oN x) y (nI k) 0) 14 (oN x) 0)), (0, .ref (G.2.1 0)), (1, .int x), (2, .int y), (3, .int z), (6, .int (nI k))]) hx hb dX4_advise_94 hl (by decide) rfl (fun ls hl => ?_)
          refine lv_iinc (v := nI (k + 1)) (lv' := [(6, .int (nI (k + 1))), (4, .int (nI k)), (5, .int (oPn (oMove (oCpT ((kAv α β nS nO nH (oN x) y (oN z) k).1) (α) nS nO) (oN x) y (nI k) 0) nS nO nH (oN z) 14 (oN x) 0 - (oMove (oCpT ((kAv α β nS nO nH (oN x) y (oN z) k).1) (α) nS nO) (oN x) y (nI k) 0) 14 (oN x) 0)), (7, .int (oPn (oMove (oCpT ((kAv α β nS nO nH (oN x) y (oN z) k).1) (α) nS nO) (oN x) y (nI k) 0) nS nO nH (oN z) 14 (oN x) 0 - (oMove (oCpT ((kAv α β nS nO nH (oN x) y (oN z) k).1) (α) nS nO) (oN x) y (nI k) 0) 14 (oN x) 0)), (0, .ref (G.2.1 0)), (1, .int x), (2, .int y), (3, .int z)]) hx hb dX4_advise_96 hl (k := 7) rfl (nI_1 k) (by decide) rfl (fun ls hl => ?_)
          refine lv_goto (tgt := 26) hx hb dX4_advise_99 (by decide) ?_
          exact ih26 (k + 1) (by omega) _ (by simp only [kAv, c40, n40, c85, if_true, if_false, reduceIte]; try rfl) _ (by simp only [kAv, c40, n40, c85, if_true, if_false, reduceIte]; try rfl) _ (rfl) _ (by simp only [kAv, c40, n40, c85, if_true, if_false, reduceIte]; try rfl) _ _ hP hS ls (lv_sub hl [4, 5, 6, 7, 1, 2, 0] rfl)
  exact lp26 (oNp α (oN y)) 0 (by omega) _ (rfl) _ (rfl) _ (rfl) _ (rfl) _ _ hP hS ls (lv_sub hl [3, 4, 5, 6, 2, 1, 0] rfl)
set_option maxHeartbeats 4000000 in
set_option maxRecDepth 100000 in
theorem m_X4_mix (l : Launch) (G : oG) (α β γ : oT) (d : Int64) (x : Int32) : Met l yX4_mix wsX4_mix ({ frames := 0, cells := 0, slots := 0, locals := 0 } : Room) (va_Pc [.long (d), .int x] (PW G (cw G (z3 α β γ)))) (oR (some (.long (kMix d x)))) 0 0 (fun _ => False) := by
  refine o_body (cc := cX4_mix) (by decide +kernel) rfl (Nat.le_of_ble_eq_true rfl) ?_
  intro p e s m below meth c ls hx hb hml hr hlocks hown hts hP hK hN hl
  have hown : s.vm.findClass RX4 = some m.cls := hown
  have hl : lv_has ls 3 [(0, .long (d)), (2, .int x)] := hl
  refine lv_lload_n hx hb dX4_mix_0 rfl (lv_at hl 0 rfl) ?_
  refine lv_ldc2 hx hb hown (hts (.constantLong RX4 191 (31)) (List.mem_of_getElem? (i := 1) rfl)) dX4_mix_1 ?_
  refine lv_lmul hx hb dX4_mix_4 ?_
  refine lv_iload_n hx hb dX4_mix_5 rfl (lv_at hl 1 rfl) ?_
  refine lv_i2l (v := x.toInt64) hx hb dX4_mix_6 rfl ?_
  refine lv_ladd hx hb dX4_mix_7 ?_
  exact o_lretR hx hb hr hlocks dX4_mix_8 (rfl)
set_option maxHeartbeats 4000000 in
set_option maxRecDepth 100000 in
theorem m_X4_mixStreet (l : Launch) (G : oG) (α β γ : oT) (nS : Nat) (nO : Nat) (nH : Nat) (hz : oOK α nS nO nH) (d : Int64) (r : Nat) (ar : Int32) (er : ar = nI r) (hrS : r < nS) : Met l yX4_mixStreet wsX4_mixStreet ({ frames := 5, cells := 0, slots := 0, locals := 115 } : Room) (va_Pc [.ref (G.2.1 0), .long (d), .int ar] (PW G (cw G (z3 α β γ)))) (oR (some (.long (kMT α r (kMS α nO nH r d 8) 6)))) 0 0 (fun _ => False) := by
  subst er
  refine o_body (cc := cX4_mixStreet) (by decide +kernel) rfl (Nat.le_of_ble_eq_true rfl) ?_
  intro p e s m below meth c ls hx hb hml hr hlocks hown hts hP hK hN hl
  have hown : s.vm.findClass RX4 = some m.cls := hown
  have hl : lv_has ls 7 [(0, .ref (G.2.1 0)), (1, .long (d)), (3, .int (nI r))] := hl
  obtain ⟨hz1, hz2, hz3, hz4, hz5, hz6, hz7⟩ := id hz
  refine lv_lload_n hx hb dX4_mixStreet_0 rfl (lv_at hl 1 rfl) ?_
  refine lv_lstore (lv' := [(4, .long (d)), (0, .ref (G.2.1 0)), (1, .long (d)), (3, .int (nI r))]) hx hb dX4_mixStreet_1 hl (by decide) rfl (fun ls hl => ?_)
  refine lv_iconst (v := 0) hx hb dX4_mixStreet_3 (by decide) ?_
  refine lv_istore (lv' := [(6, .int 0), (4, .long (d)), (0, .ref (G.2.1 0)), (1, .long (d)), (3, .int (nI r))]) hx hb dX4_mixStreet_4 hl (by decide) rfl (fun ls hl => ?_)
  have lp6 : ∀ (d6 k : Nat), k + d6 = 8 → ∀ x6_4 : Int64, x6_4 = (kMS α nO nH r d k) → ∀ x6_6 : Int32, x6_6 = (nI k) → ∀ ls : Array Slot, lv_has ls 7 [(0, .ref (G.2.1 0)), (1, .long (d)), (3, .int (nI r)), (4, .long (x6_4)), (6, .int x6_6)] → W p l e ({ frames := 5, cells := 0, slots := 0, locals := 115 } : Room) s m ([.ref (G.2.1 0), .long (d), .int (nI r)] : List Value).toArray below meth c s.heap [] 0 0 (MQ below (oR (some (.long (kMT α r (kMS α nO nH r d 8) 6)))) ([.ref (G.2.1 0), .long (d), .int (nI r)] : List Value).toArray s 0 0 (fun _ => False)) (F0 m 6 ls []) := by
    intro d6
    induction d6 with
    | zero =>
      intro k hk6 x6_4 e6_4 x6_6 e6_6 ls hl
      subst e6_4
      subst e6_6
      have hk6 : k = 8 := by omega
      refine lv_iload hx hb dX4_mixStreet_6 (lv_at hl 4 rfl) ?_
      refine lv_bipush (v := 8) hx hb dX4_mixStreet_8 (by decide) ?_
      refine lv_icmp_ge (tgt := 36) hx hb dX4_mixStreet_10 (by decide) (fun c10 => ?_) (fun c10 => ?_)
      · have n10 := (o_nle (a := 8) (b := k) (by decide) rfl (by omega) (by omega)).mp c10
        refine lv_iconst (v := 0) hx hb dX4_mixStreet_36 (by decide) ?_
        refine lv_istore (lv' := [(6, .int 0), (0, .ref (G.2.1 0)), (1, .long (d)), (3, .int (nI r)), (4, .long (kMS α nO nH r d k))]) hx hb dX4_mixStreet_37 hl (by decide) rfl (fun ls hl => ?_)
        have lp39 : ∀ (d39 k2 : Nat), k2 + d39 = 6 → ∀ x39_4 : Int64, x39_4 = (kMT α r (kMS α nO nH r d k) k2) → ∀ x39_6 : Int32, x39_6 = (nI k2) → ∀ ls : Array Slot, lv_has ls 7 [(0, .ref (G.2.1 0)), (1, .long (d)), (3, .int (nI r)), (4, .long (x39_4)), (6, .int x39_6)] → W p l e ({ frames := 5, cells := 0, slots := 0, locals := 115 } : Room) s m ([.ref (G.2.1 0), .long (d), .int (nI r)] : List Value).toArray below meth c s.heap [] 0 0 (MQ below (oR (some (.long (kMT α r (kMS α nO nH r d 8) 6)))) ([.ref (G.2.1 0), .long (d), .int (nI r)] : List Value).toArray s 0 0 (fun _ => False)) (F0 m 39 ls []) := by
          intro d39
          induction d39 with
          | zero =>
            intro k2 hk39 x39_4 e39_4 x39_6 e39_6 ls hl
            subst e39_4
            subst e39_6
            have hk39 : k2 = 6 := by omega
            refine lv_iload hx hb dX4_mixStreet_39 (lv_at hl 4 rfl) ?_
            refine lv_bipush (v := 6) hx hb dX4_mixStreet_41 (by decide) ?_
            refine lv_icmp_ge (tgt := 96) hx hb dX4_mixStreet_43 (by decide) (fun c43 => ?_) (fun c43 => ?_)
            · have n43 := (o_nle (a := 6) (b := k2) (by decide) rfl (by omega) (by omega)).mp c43
              refine lv_lload hx hb dX4_mixStreet_96 (lv_at hl 3 rfl) ?_
              exact o_lretR hx hb hr hlocks dX4_mixStreet_98 (by subst hk6; subst hk39; rfl)
            · have n43 := (mt (o_nle (a := 6) (b := k2) (by decide) rfl (by omega) (by omega)).mpr) c43; omega
          | succ d39 ih39 =>
            intro k2 hk39 x39_4 e39_4 x39_6 e39_6 ls hl
            subst e39_4
            subst e39_6
            have hj39 : k2 < 6 := by omega
            refine lv_iload hx hb dX4_mixStreet_39 (lv_at hl 4 rfl) ?_
            refine lv_bipush (v := 6) hx hb dX4_mixStreet_41 (by decide) ?_
            refine lv_icmp_ge (tgt := 96) hx hb dX4_mixStreet_43 (by decide) (fun c43 => ?_) (fun c43 => ?_)
            · have n43 := (o_nle (a := 6) (b := k2) (by decide) rfl (by omega) (by omega)).mp c43; omega
            · have n43 := (mt (o_nle (a := 6) (b := k2) (by decide) rfl (by omega) (by omega)).mpr) c43
              refine lv_lload hx hb dX4_mixStreet_46 (lv_at hl 3 rfl) ?_
              refine lv_aload_n hx hb dX4_mixStreet_48 rfl (lv_at hl 0 rfl) ?_
              refine va_get (D := G.1) (ci := 6) (v := .ref (ta G 0 (0))) (C := RX4) (T := TX4) (N := 3) hx hb hts (fun w9 h9 => List.mem_cons_of_mem _ (List.mem_append_left _ (List.mem_append_left _ (List.mem_append_left _ (List.mem_append_right _ (h9)))))) hown hK hP (0) (cx_C G (z3 α β γ)) rfl 0 (by decide) (hts (.fieldLink RX4 10 "OrganCensus" "town" "LOrganCensus$Town;") (List.mem_of_getElem? (i := 1) rfl)) (fun _ h9 => h9) rfl dX4_mixStreet_49 ?_
              refine va_get (D := G.1) (ci := 5) (v := .ref (ta G 0 (1))) (C := RX3) (T := TX3) (N := 5) hx hb hts (fun w9 h9 => List.mem_cons_of_mem _ (List.mem_append_left _ (List.mem_append_left _ (List.mem_append_right _ (h9))))) hown hK hP (1 + 67 * 0 + (0)) (cx_T G (z3 α β γ) (show 0 < 2 by decide)) rfl 0 (by decide) (hts (.fieldLink RX4 53 "OrganCensus$Town" "streets" "[LOrganCensus$Street;") (List.mem_of_getElem? (i := 2) rfl)) (fun _ h9 => h9) rfl dX4_mixStreet_52 ?_
              refine lv_iload_n hx hb dX4_mixStreet_55 rfl (lv_at hl 2 rfl) ?_
              refine o_aald (k := r) (C := RX2) hx hb hK hP (1 + 67 * 0 + (1)) 1 (cx_SA G (z3 α β γ) (show 0 < 2 by decide)) rfl rfl (by omega) (by decide) rfl dX4_mixStreet_56 ?_
              refine va_get (D := G.1) (ci := 4) (v := .ref (ta G 0 (5 + 4 * r))) (C := RX2) (T := TX2) (N := 6) hx hb hts (fun w9 h9 => List.mem_cons_of_mem _ (List.mem_append_left _ (List.mem_append_right _ (h9)))) hown hK hP (1 + 67 * 0 + (3 + 4 * r)) (cx_S G (z3 α β γ) (show 0 < 2 by decide) (by omega)) rfl 1 (by decide) (hts (.fieldLink RX4 63 "OrganCensus$Street" "tastes" "[I") (List.mem_of_getElem? (i := 3) rfl)) (fun _ h9 => h9) rfl dX4_mixStreet_57 ?_
              refine lv_iload hx hb dX4_mixStreet_60 (lv_at hl 4 rfl) ?_
              refine o_iald (k := k2) hx hb hK hP (1 + 67 * 0 + (5 + 4 * r)) 0 (cx_St G (z3 α β γ) (show 0 < 2 by decide) (by omega)) rfl rfl (by omega) (by decide) dX4_mixStreet_62 ?_
              refine o_cSl [.long (kMT α r (kMS α nO nH r d k) k2), .int (α 1 r k2)] [] ⟨hx, hb, hml, hown, hts⟩ (m_X4_mix l G α β γ (kMT α r (kMS α nO nH r d k) k2) (α 1 r k2)) (va_cwS 2 hts gX4_mixStreet_X4_mix rfl rfl rfl (by decide +kernel) ⟨Nat.le_of_ble_eq_true rfl, Nat.le_of_ble_eq_true rfl⟩) hK hN hP rfl hl.1 rfl (Nat.le_of_ble_eq_true rfl) dX4_mixStreet_63 ⟨Nat.zero_le _, Nat.zero_le _⟩ ?_
              refine lv_lstore (lv' := [(4, .long (kMix (kMT α r (kMS α nO nH r d k) k2) (α 1 r k2))), (0, .ref (G.2.1 0)), (1, .long (d)), (3, .int (nI r)), (6, .int (nI k2))]) hx hb dX4_mixStreet_66 hl (by decide) rfl (fun ls hl => ?_)
              refine lv_lload hx hb dX4_mixStreet_68 (lv_at hl 0 rfl) ?_
              refine lv_aload_n hx hb dX4_mixStreet_70 rfl (lv_at hl 1 rfl) ?_
              refine va_get (D := G.1) (ci := 6) (v := .ref (ta G 0 (0))) (C := RX4) (T := TX4) (N := 3) hx hb hts (fun w9 h9 => List.mem_cons_of_mem _ (List.mem_append_left _ (List.mem_append_left _ (List.mem_append_left _ (List.mem_append_right _ (h9)))))) hown hK hP (0) (cx_C G (z3 α β γ)) rfl 0 (by decide) (hts (.fieldLink RX4 10 "OrganCensus" "town" "LOrganCensus$Town;") (List.mem_of_getElem? (i := 1) rfl)) (fun _ h9 => h9) rfl dX4_mixStreet_71 ?_
              refine va_get (D := G.1) (ci := 5) (v := .ref (ta G 0 (1))) (C := RX3) (T := TX3) (N := 5) hx hb hts (fun w9 h9 => List.mem_cons_of_mem _ (List.mem_append_left _ (List.mem_append_left _ (List.mem_append_right _ (h9))))) hown hK hP (1 + 67 * 0 + (0)) (cx_T G (z3 α β γ) (show 0 < 2 by decide)) rfl 0 (by decide) (hts (.fieldLink RX4 53 "OrganCensus$Town" "streets" "[LOrganCensus$Street;") (List.mem_of_getElem? (i := 2) rfl)) (fun _ h9 => h9) rfl dX4_mixStreet_74 ?_
              refine lv_iload_n hx hb dX4_mixStreet_77 rfl (lv_at hl 3 rfl) ?_
              refine o_aald (k := r) (C := RX2) hx hb hK hP (1 + 67 * 0 + (1)) 1 (cx_SA G (z3 α β γ) (show 0 < 2 by decide)) rfl rfl (by omega) (by decide) rfl dX4_mixStreet_78 ?_
              refine va_get (D := G.1) (ci := 4) (v := .ref (ta G 0 (6 + 4 * r))) (C := RX2) (T := TX2) (N := 6) hx hb hts (fun w9 h9 => List.mem_cons_of_mem _ (List.mem_append_left _ (List.mem_append_right _ (h9)))) hown hK hP (1 + 67 * 0 + (3 + 4 * r)) (cx_S G (z3 α β γ) (show 0 < 2 by decide) (by omega)) rfl 2 (by decide) (hts (.fieldLink RX4 70 "OrganCensus$Street" "weariness" "[I") (List.mem_of_getElem? (i := 4) rfl)) (fun _ h9 => h9) rfl dX4_mixStreet_79 ?_
              refine lv_iload hx hb dX4_mixStreet_82 (lv_at hl 4 rfl) ?_
              refine o_iald (k := k2) hx hb hK hP (1 + 67 * 0 + (6 + 4 * r)) 0 (cx_Sw G (z3 α β γ) (show 0 < 2 by decide) (by omega)) rfl rfl (by omega) (by decide) dX4_mixStreet_84 ?_
              refine o_cSl [.long (kMix (kMT α r (kMS α nO nH r d k) k2) (α 1 r k2)), .int (α 2 r k2)] [] ⟨hx, hb, hml, hown, hts⟩ (m_X4_mix l G α β γ (kMix (kMT α r (kMS α nO nH r d k) k2) (α 1 r k2)) (α 2 r k2)) (va_cwS 2 hts gX4_mixStreet_X4_mix rfl rfl rfl (by decide +kernel) ⟨Nat.le_of_ble_eq_true rfl, Nat.le_of_ble_eq_true rfl⟩) hK hN hP rfl hl.1 rfl (Nat.le_of_ble_eq_true rfl) dX4_mixStreet_85 ⟨Nat.zero_le _, Nat.zero_le _⟩ ?_
              refine lv_lstore (lv' := [(4, .long (kMix (kMix (kMT α r (kMS α nO nH r d k) k2) (α 1 r k2)) (α 2 r k2))), (0, .ref (G.2.1 0)), (1, .long (d)), (3, .int (nI r)), (6, .int (nI k2))]) hx hb dX4_mixStreet_88 hl (by decide) rfl (fun ls hl => ?_)
              refine lv_iinc (v := nI (k2 + 1)) (lv' := [(6, .int (nI (k2 + 1))), (4, .long (kMix (kMix (kMT α r (kMS α nO nH r d k) k2) (α 1 r k2)) (α 2 r k2))), (0, .ref (G.2.1 0)), (1, .long (d)), (3, .int (nI r))]) hx hb dX4_mixStreet_90 hl (k := 4) rfl (nI_1 k2) (by decide) rfl (fun ls hl => ?_)
              refine lv_goto (tgt := 39) hx hb dX4_mixStreet_93 (by decide) ?_
              exact ih39 (k2 + 1) (by omega) _ (rfl) _ (rfl) ls (lv_sub hl [2, 3, 4, 1, 0] rfl)
        exact lp39 (6) 0 (by omega) _ (rfl) _ (rfl) ls (lv_sub hl [1, 2, 3, 4, 0] rfl)
      · have n10 := (mt (o_nle (a := 8) (b := k) (by decide) rfl (by omega) (by omega)).mpr) c10; omega
    | succ d6 ih6 =>
      intro k hk6 x6_4 e6_4 x6_6 e6_6 ls hl
      subst e6_4
      subst e6_6
      have hj6 : k < 8 := by omega
      refine lv_iload hx hb dX4_mixStreet_6 (lv_at hl 4 rfl) ?_
      refine lv_bipush (v := 8) hx hb dX4_mixStreet_8 (by decide) ?_
      refine lv_icmp_ge (tgt := 36) hx hb dX4_mixStreet_10 (by decide) (fun c10 => ?_) (fun c10 => ?_)
      · have n10 := (o_nle (a := 8) (b := k) (by decide) rfl (by omega) (by omega)).mp c10; omega
      · have n10 := (mt (o_nle (a := 8) (b := k) (by decide) rfl (by omega) (by omega)).mpr) c10
        refine lv_lload hx hb dX4_mixStreet_13 (lv_at hl 3 rfl) ?_
        refine lv_aload_n hx hb dX4_mixStreet_15 rfl (lv_at hl 0 rfl) ?_
        refine va_get (D := G.1) (ci := 6) (v := .ref (ta G 0 (0))) (C := RX4) (T := TX4) (N := 3) hx hb hts (fun w9 h9 => List.mem_cons_of_mem _ (List.mem_append_left _ (List.mem_append_left _ (List.mem_append_left _ (List.mem_append_right _ (h9)))))) hown hK hP (0) (cx_C G (z3 α β γ)) rfl 0 (by decide) (hts (.fieldLink RX4 10 "OrganCensus" "town" "LOrganCensus$Town;") (List.mem_of_getElem? (i := 1) rfl)) (fun _ h9 => h9) rfl dX4_mixStreet_16 ?_
        refine lv_iload_n hx hb dX4_mixStreet_19 rfl (lv_at hl 2 rfl) ?_
        refine lv_iload hx hb dX4_mixStreet_20 (lv_at hl 4 rfl) ?_
        have hP : va_P G.1 vwCl (tw G (z3 α β γ) 0 α) s.heap := by rw [tz0]; exact hP
        refine o_cVi (q0 := 1 + 67 * 0 + (0)) (ci := 5) [.int (nI r), .int (nI k)] [.long (kMS α nO nH r d k)] ⟨hx, hb, hml, hown, hts⟩ (m_X3_streetFact l G (z3 α β γ) (show 0 < 2 by decide) α nS nO nH hz r (nI r) (rfl) (by omega) k (nI k) (rfl) (by omega)) (cwV 2 hts gX4_mixStreet_X3_streetFact rfl rfl rfl (by decide +kernel) ⟨Nat.le_of_ble_eq_true rfl, Nat.le_of_ble_eq_true rfl⟩) hK hN hP rfl rfl (tw_T G (z3 α β γ) (show 0 < 2 by decide) α) rfl hl.1 rfl (Nat.le_of_ble_eq_true rfl) dX4_mixStreet_22 ⟨Nat.zero_le _, Nat.zero_le _⟩ ?_
        have hP : va_P G.1 vwCl (cw G (z3 α β γ)) s.heap := by rw [tz0] at hP; exact hP
        refine o_cSl [.long (kMS α nO nH r d k), .int (oSFact α nO nH r k)] [] ⟨hx, hb, hml, hown, hts⟩ (m_X4_mix l G α β γ (kMS α nO nH r d k) (oSFact α nO nH r k)) (va_cwS 2 hts gX4_mixStreet_X4_mix rfl rfl rfl (by decide +kernel) ⟨Nat.le_of_ble_eq_true rfl, Nat.le_of_ble_eq_true rfl⟩) hK hN hP rfl hl.1 rfl (Nat.le_of_ble_eq_true rfl) dX4_mixStreet_25 ⟨Nat.zero_le _, Nat.zero_le _⟩ ?_
        refine lv_lstore (lv' := [(4, .long (kMix (kMS α nO nH r d k) (oSFact α nO nH r k))), (0, .ref (G.2.1 0)), (1, .long (d)), (3, .int (nI r)), (6, .int (nI k))]) hx hb dX4_mixStreet_28 hl (by decide) rfl (fun ls hl => ?_)
        refine lv_iinc (v := nI (k + 1)) (lv' := [(6, .int (nI (k + 1))), (4, .long (kMix (kMS α nO nH r d k) (oSFact α nO nH r k))), (0, .ref (G.2.1 0)), (1, .long (d)), (3, .int (nI r))]) hx hb dX4_mixStreet_30 hl (k := 4) rfl (nI_1 k) (by decide) rfl (fun ls hl => ?_)
        refine lv_goto (tgt := 6) hx hb dX4_mixStreet_33 (by decide) ?_
        exact ih6 (k + 1) (by omega) _ (rfl) _ (rfl) ls (lv_sub hl [2, 3, 4, 1, 0] rfl)
  exact lp6 (8) 0 (by omega) _ (rfl) _ (rfl) ls (lv_sub hl [2, 3, 4, 1, 0] rfl)
set_option maxHeartbeats 4000000 in
set_option maxRecDepth 100000 in
theorem m_X4_mixOrgan (l : Launch) (G : oG) (α β γ : oT) (nS : Nat) (nO : Nat) (nH : Nat) (hz : oOK α nS nO nH) (d : Int64) (i : Nat) (ai : Int32) (ei : ai = nI i) (hi : i < nO) : Met l yX4_mixOrgan wsX4_mixOrgan ({ frames := 3, cells := 0, slots := 0, locals := 62 } : Room) (va_Pc [.ref (G.2.1 0), .long (d), .int ai] (PW G (cw G (z3 α β γ)))) (oR (some (.long (kMB α i (kMO α i d 11) nS)))) 0 0 (fun _ => False) := by
  subst ei
  refine o_body (cc := cX4_mixOrgan) (by decide +kernel) rfl (Nat.le_of_ble_eq_true rfl) ?_
  intro p e s m below meth c ls hx hb hml hr hlocks hown hts hP hK hN hl
  have hown : s.vm.findClass RX4 = some m.cls := hown
  have hl : lv_has ls 7 [(0, .ref (G.2.1 0)), (1, .long (d)), (3, .int (nI i))] := hl
  obtain ⟨hz1, hz2, hz3, hz4, hz5, hz6, hz7⟩ := id hz
  refine lv_lload_n hx hb dX4_mixOrgan_0 rfl (lv_at hl 1 rfl) ?_
  refine lv_lstore (lv' := [(4, .long (d)), (0, .ref (G.2.1 0)), (1, .long (d)), (3, .int (nI i))]) hx hb dX4_mixOrgan_1 hl (by decide) rfl (fun ls hl => ?_)
  refine lv_iconst (v := 0) hx hb dX4_mixOrgan_3 (by decide) ?_
  refine lv_istore (lv' := [(6, .int 0), (4, .long (d)), (0, .ref (G.2.1 0)), (1, .long (d)), (3, .int (nI i))]) hx hb dX4_mixOrgan_4 hl (by decide) rfl (fun ls hl => ?_)
  have lp6 : ∀ (d6 k : Nat), k + d6 = 11 → ∀ x6_4 : Int64, x6_4 = (kMO α i d k) → ∀ x6_6 : Int32, x6_6 = (nI k) → ∀ ls : Array Slot, lv_has ls 7 [(0, .ref (G.2.1 0)), (1, .long (d)), (3, .int (nI i)), (4, .long (x6_4)), (6, .int x6_6)] → W p l e ({ frames := 3, cells := 0, slots := 0, locals := 62 } : Room) s m ([.ref (G.2.1 0), .long (d), .int (nI i)] : List Value).toArray below meth c s.heap [] 0 0 (MQ below (oR (some (.long (kMB α i (kMO α i d 11) nS)))) ([.ref (G.2.1 0), .long (d), .int (nI i)] : List Value).toArray s 0 0 (fun _ => False)) (F0 m 6 ls []) := by
    intro d6
    induction d6 with
    | zero =>
      intro k hk6 x6_4 e6_4 x6_6 e6_6 ls hl
      subst e6_4
      subst e6_6
      have hk6 : k = 11 := by omega
      refine lv_iload hx hb dX4_mixOrgan_6 (lv_at hl 4 rfl) ?_
      refine lv_bipush (v := 11) hx hb dX4_mixOrgan_8 (by decide) ?_
      refine lv_icmp_ge (tgt := 40) hx hb dX4_mixOrgan_10 (by decide) (fun c10 => ?_) (fun c10 => ?_)
      · have n10 := (o_nle (a := 11) (b := k) (by decide) rfl (by omega) (by omega)).mp c10
        refine lv_iconst (v := 0) hx hb dX4_mixOrgan_40 (by decide) ?_
        refine lv_istore (lv' := [(6, .int 0), (0, .ref (G.2.1 0)), (1, .long (d)), (3, .int (nI i)), (4, .long (kMO α i d k))]) hx hb dX4_mixOrgan_41 hl (by decide) rfl (fun ls hl => ?_)
        have lp43 : ∀ (d43 k2 : Nat), k2 + d43 = nS → ∀ x43_4 : Int64, x43_4 = (kMB α i (kMO α i d k) k2) → ∀ x43_6 : Int32, x43_6 = (nI k2) → ∀ ls : Array Slot, lv_has ls 7 [(0, .ref (G.2.1 0)), (1, .long (d)), (3, .int (nI i)), (4, .long (x43_4)), (6, .int x43_6)] → W p l e ({ frames := 3, cells := 0, slots := 0, locals := 62 } : Room) s m ([.ref (G.2.1 0), .long (d), .int (nI i)] : List Value).toArray below meth c s.heap [] 0 0 (MQ below (oR (some (.long (kMB α i (kMO α i d 11) nS)))) ([.ref (G.2.1 0), .long (d), .int (nI i)] : List Value).toArray s 0 0 (fun _ => False)) (F0 m 43 ls []) := by
          intro d43
          induction d43 with
          | zero =>
            intro k2 hk43 x43_4 e43_4 x43_6 e43_6 ls hl
            subst e43_4
            subst e43_6
            have hk43 : k2 = nS := by omega
            refine lv_iload hx hb dX4_mixOrgan_43 (lv_at hl 4 rfl) ?_
            refine lv_aload_n hx hb dX4_mixOrgan_45 rfl (lv_at hl 0 rfl) ?_
            refine va_get (D := G.1) (ci := 6) (v := .ref (ta G 0 (0))) (C := RX4) (T := TX4) (N := 3) hx hb hts (fun w9 h9 => List.mem_cons_of_mem _ (List.mem_append_left _ (List.mem_append_left _ (List.mem_append_right _ (h9))))) hown hK hP (0) (cx_C G (z3 α β γ)) rfl 0 (by decide) (hts (.fieldLink RX4 10 "OrganCensus" "town" "LOrganCensus$Town;") (List.mem_of_getElem? (i := 1) rfl)) (fun _ h9 => h9) rfl dX4_mixOrgan_46 ?_
            refine va_get (D := G.1) (ci := 5) (v := .int (α 18 0 0)) (C := RX3) (T := TX3) (N := 5) hx hb hts (fun w9 h9 => List.mem_cons_of_mem _ (List.mem_append_left _ (List.mem_append_right _ (h9)))) hown hK hP (1 + 67 * 0 + (0)) (cx_T G (z3 α β γ) (show 0 < 2 by decide)) rfl 2 (by decide) (hts (.fieldLink RX4 30 "OrganCensus$Town" "streetCount" "I") (List.mem_of_getElem? (i := 3) rfl)) (fun _ h9 => h9) rfl dX4_mixOrgan_49 ?_
            refine lv_icmp_ge (tgt := 83) hx hb dX4_mixOrgan_52 (by decide) (fun c52 => ?_) (fun c52 => ?_)
            · have n52 := (o_nle (a := nS) (b := k2) hz.1 rfl (by omega) (by omega)).mp c52
              refine lv_lload hx hb dX4_mixOrgan_83 (lv_at hl 3 rfl) ?_
              exact o_lretR hx hb hr hlocks dX4_mixOrgan_85 (by subst hk6; subst hk43; rfl)
            · have n52 := (mt (o_nle (a := nS) (b := k2) hz.1 rfl (by omega) (by omega)).mpr) c52; omega
          | succ d43 ih43 =>
            intro k2 hk43 x43_4 e43_4 x43_6 e43_6 ls hl
            subst e43_4
            subst e43_6
            have hj43 : k2 < nS := by omega
            refine lv_iload hx hb dX4_mixOrgan_43 (lv_at hl 4 rfl) ?_
            refine lv_aload_n hx hb dX4_mixOrgan_45 rfl (lv_at hl 0 rfl) ?_
            refine va_get (D := G.1) (ci := 6) (v := .ref (ta G 0 (0))) (C := RX4) (T := TX4) (N := 3) hx hb hts (fun w9 h9 => List.mem_cons_of_mem _ (List.mem_append_left _ (List.mem_append_left _ (List.mem_append_right _ (h9))))) hown hK hP (0) (cx_C G (z3 α β γ)) rfl 0 (by decide) (hts (.fieldLink RX4 10 "OrganCensus" "town" "LOrganCensus$Town;") (List.mem_of_getElem? (i := 1) rfl)) (fun _ h9 => h9) rfl dX4_mixOrgan_46 ?_
            refine va_get (D := G.1) (ci := 5) (v := .int (α 18 0 0)) (C := RX3) (T := TX3) (N := 5) hx hb hts (fun w9 h9 => List.mem_cons_of_mem _ (List.mem_append_left _ (List.mem_append_right _ (h9)))) hown hK hP (1 + 67 * 0 + (0)) (cx_T G (z3 α β γ) (show 0 < 2 by decide)) rfl 2 (by decide) (hts (.fieldLink RX4 30 "OrganCensus$Town" "streetCount" "I") (List.mem_of_getElem? (i := 3) rfl)) (fun _ h9 => h9) rfl dX4_mixOrgan_49 ?_
            refine lv_icmp_ge (tgt := 83) hx hb dX4_mixOrgan_52 (by decide) (fun c52 => ?_) (fun c52 => ?_)
            · have n52 := (o_nle (a := nS) (b := k2) hz.1 rfl (by omega) (by omega)).mp c52; omega
            · have n52 := (mt (o_nle (a := nS) (b := k2) hz.1 rfl (by omega) (by omega)).mpr) c52
              refine lv_lload hx hb dX4_mixOrgan_55 (lv_at hl 3 rfl) ?_
              refine lv_aload_n hx hb dX4_mixOrgan_57 rfl (lv_at hl 0 rfl) ?_
              refine va_get (D := G.1) (ci := 6) (v := .ref (ta G 0 (0))) (C := RX4) (T := TX4) (N := 3) hx hb hts (fun w9 h9 => List.mem_cons_of_mem _ (List.mem_append_left _ (List.mem_append_left _ (List.mem_append_right _ (h9))))) hown hK hP (0) (cx_C G (z3 α β γ)) rfl 0 (by decide) (hts (.fieldLink RX4 10 "OrganCensus" "town" "LOrganCensus$Town;") (List.mem_of_getElem? (i := 1) rfl)) (fun _ h9 => h9) rfl dX4_mixOrgan_58 ?_
              refine va_get (D := G.1) (ci := 5) (v := .ref (ta G 0 (2))) (C := RX3) (T := TX3) (N := 5) hx hb hts (fun w9 h9 => List.mem_cons_of_mem _ (List.mem_append_left _ (List.mem_append_right _ (h9)))) hown hK hP (1 + 67 * 0 + (0)) (cx_T G (z3 α β γ) (show 0 < 2 by decide)) rfl 1 (by decide) (hts (.fieldLink RX4 97 "OrganCensus$Town" "organs" "[LOrganCensus$Organ;") (List.mem_of_getElem? (i := 2) rfl)) (fun _ h9 => h9) rfl dX4_mixOrgan_61 ?_
              refine lv_iload_n hx hb dX4_mixOrgan_64 rfl (lv_at hl 2 rfl) ?_
              refine o_aald (k := i) (C := RX0) hx hb hK hP (1 + 67 * 0 + (2)) 2 (cx_OA G (z3 α β γ) (show 0 < 2 by decide)) rfl rfl (by omega) (by decide) rfl dX4_mixOrgan_65 ?_
              refine va_get (D := G.1) (ci := 2) (v := .ref (ta G 0 (31 + 5 * i))) (C := RX0) (T := TX0) (N := 12) hx hb hts (fun w9 h9 => List.mem_cons_of_mem _ (List.mem_append_right _ (h9))) hown hK hP (1 + 67 * 0 + (27 + 5 * i)) (cx_O G (z3 α β γ) (show 0 < 2 by decide) (by omega)) rfl 3 (by decide) (hts (.fieldLink RX4 109 "OrganCensus$Organ" "banishedHours" "[I") (List.mem_of_getElem? (i := 4) rfl)) (fun _ h9 => h9) rfl dX4_mixOrgan_66 ?_
              refine lv_iload hx hb dX4_mixOrgan_69 (lv_at hl 4 rfl) ?_
              refine o_iald (k := k2) hx hb hK hP (1 + 67 * 0 + (31 + 5 * i)) 0 (cx_Ob G (z3 α β γ) (show 0 < 2 by decide) (by omega)) rfl rfl (by omega) (by decide) dX4_mixOrgan_71 ?_
              refine o_cSl [.long (kMB α i (kMO α i d k) k2), .int (α 9 i k2)] [] ⟨hx, hb, hml, hown, hts⟩ (m_X4_mix l G α β γ (kMB α i (kMO α i d k) k2) (α 9 i k2)) (va_cwS 2 hts gX4_mixOrgan_X4_mix rfl rfl rfl (by decide +kernel) ⟨Nat.le_of_ble_eq_true rfl, Nat.le_of_ble_eq_true rfl⟩) hK hN hP rfl hl.1 rfl (Nat.le_of_ble_eq_true rfl) dX4_mixOrgan_72 ⟨Nat.zero_le _, Nat.zero_le _⟩ ?_
              refine lv_lstore (lv' := [(4, .long (kMix (kMB α i (kMO α i d k) k2) (α 9 i k2))), (0, .ref (G.2.1 0)), (1, .long (d)), (3, .int (nI i)), (6, .int (nI k2))]) hx hb dX4_mixOrgan_75 hl (by decide) rfl (fun ls hl => ?_)
              refine lv_iinc (v := nI (k2 + 1)) (lv' := [(6, .int (nI (k2 + 1))), (4, .long (kMix (kMB α i (kMO α i d k) k2) (α 9 i k2))), (0, .ref (G.2.1 0)), (1, .long (d)), (3, .int (nI i))]) hx hb dX4_mixOrgan_77 hl (k := 4) rfl (nI_1 k2) (by decide) rfl (fun ls hl => ?_)
              refine lv_goto (tgt := 43) hx hb dX4_mixOrgan_80 (by decide) ?_
              exact ih43 (k2 + 1) (by omega) _ (rfl) _ (rfl) ls (lv_sub hl [2, 3, 4, 1, 0] rfl)
        exact lp43 (nS) 0 (by omega) _ (rfl) _ (rfl) ls (lv_sub hl [1, 2, 3, 4, 0] rfl)
      · have n10 := (mt (o_nle (a := 11) (b := k) (by decide) rfl (by omega) (by omega)).mpr) c10; omega
    | succ d6 ih6 =>
      intro k hk6 x6_4 e6_4 x6_6 e6_6 ls hl
      subst e6_4
      subst e6_6
      have hj6 : k < 11 := by omega
      refine lv_iload hx hb dX4_mixOrgan_6 (lv_at hl 4 rfl) ?_
      refine lv_bipush (v := 11) hx hb dX4_mixOrgan_8 (by decide) ?_
      refine lv_icmp_ge (tgt := 40) hx hb dX4_mixOrgan_10 (by decide) (fun c10 => ?_) (fun c10 => ?_)
      · have n10 := (o_nle (a := 11) (b := k) (by decide) rfl (by omega) (by omega)).mp c10; omega
      · have n10 := (mt (o_nle (a := 11) (b := k) (by decide) rfl (by omega) (by omega)).mpr) c10
        refine lv_lload hx hb dX4_mixOrgan_13 (lv_at hl 3 rfl) ?_
        refine lv_aload_n hx hb dX4_mixOrgan_15 rfl (lv_at hl 0 rfl) ?_
        refine va_get (D := G.1) (ci := 6) (v := .ref (ta G 0 (0))) (C := RX4) (T := TX4) (N := 3) hx hb hts (fun w9 h9 => List.mem_cons_of_mem _ (List.mem_append_left _ (List.mem_append_left _ (List.mem_append_right _ (h9))))) hown hK hP (0) (cx_C G (z3 α β γ)) rfl 0 (by decide) (hts (.fieldLink RX4 10 "OrganCensus" "town" "LOrganCensus$Town;") (List.mem_of_getElem? (i := 1) rfl)) (fun _ h9 => h9) rfl dX4_mixOrgan_16 ?_
        refine va_get (D := G.1) (ci := 5) (v := .ref (ta G 0 (2))) (C := RX3) (T := TX3) (N := 5) hx hb hts (fun w9 h9 => List.mem_cons_of_mem _ (List.mem_append_left _ (List.mem_append_right _ (h9)))) hown hK hP (1 + 67 * 0 + (0)) (cx_T G (z3 α β γ) (show 0 < 2 by decide)) rfl 1 (by decide) (hts (.fieldLink RX4 97 "OrganCensus$Town" "organs" "[LOrganCensus$Organ;") (List.mem_of_getElem? (i := 2) rfl)) (fun _ h9 => h9) rfl dX4_mixOrgan_19 ?_
        refine lv_iload_n hx hb dX4_mixOrgan_22 rfl (lv_at hl 2 rfl) ?_
        refine o_aald (k := i) (C := RX0) hx hb hK hP (1 + 67 * 0 + (2)) 2 (cx_OA G (z3 α β γ) (show 0 < 2 by decide)) rfl rfl (by omega) (by decide) rfl dX4_mixOrgan_23 ?_
        refine lv_iload hx hb dX4_mixOrgan_24 (lv_at hl 4 rfl) ?_
        have hP : va_P G.1 vwCl (tw G (z3 α β γ) 0 α) s.heap := by rw [tz0]; exact hP
        refine o_cVi (q0 := 1 + 67 * 0 + (27 + 5 * i)) (ci := 2) [.int (nI k)] [.long (kMO α i d k)] ⟨hx, hb, hml, hown, hts⟩ (m_X0_fact l G (z3 α β γ) (show 0 < 2 by decide) α i (by omega) k (nI k) (rfl) (by omega)) (cwV 1 hts gX4_mixOrgan_X0_fact rfl rfl rfl (by decide +kernel) ⟨Nat.le_of_ble_eq_true rfl, Nat.le_of_ble_eq_true rfl⟩) hK hN hP rfl rfl (tw_O G (z3 α β γ) (show 0 < 2 by decide) α (by omega)) rfl hl.1 rfl (Nat.le_of_ble_eq_true rfl) dX4_mixOrgan_26 ⟨Nat.zero_le _, Nat.zero_le _⟩ ?_
        have hP : va_P G.1 vwCl (cw G (z3 α β γ)) s.heap := by rw [tz0] at hP; exact hP
        refine o_cSl [.long (kMO α i d k), .int (oFact α i k)] [] ⟨hx, hb, hml, hown, hts⟩ (m_X4_mix l G α β γ (kMO α i d k) (oFact α i k)) (va_cwS 2 hts gX4_mixOrgan_X4_mix rfl rfl rfl (by decide +kernel) ⟨Nat.le_of_ble_eq_true rfl, Nat.le_of_ble_eq_true rfl⟩) hK hN hP rfl hl.1 rfl (Nat.le_of_ble_eq_true rfl) dX4_mixOrgan_29 ⟨Nat.zero_le _, Nat.zero_le _⟩ ?_
        refine lv_lstore (lv' := [(4, .long (kMix (kMO α i d k) (oFact α i k))), (0, .ref (G.2.1 0)), (1, .long (d)), (3, .int (nI i)), (6, .int (nI k))]) hx hb dX4_mixOrgan_32 hl (by decide) rfl (fun ls hl => ?_)
        refine lv_iinc (v := nI (k + 1)) (lv' := [(6, .int (nI (k + 1))), (4, .long (kMix (kMO α i d k) (oFact α i k))), (0, .ref (G.2.1 0)), (1, .long (d)), (3, .int (nI i))]) hx hb dX4_mixOrgan_34 hl (k := 4) rfl (nI_1 k) (by decide) rfl (fun ls hl => ?_)
        refine lv_goto (tgt := 6) hx hb dX4_mixOrgan_37 (by decide) ?_
        exact ih6 (k + 1) (by omega) _ (rfl) _ (rfl) ls (lv_sub hl [2, 3, 4, 1, 0] rfl)
  exact lp6 (11) 0 (by omega) _ (rfl) _ (rfl) ls (lv_sub hl [2, 3, 4, 1, 0] rfl)
set_option maxHeartbeats 4000000 in
set_option maxRecDepth 100000 in
theorem m_X4_digest (l : Launch) (G : oG) (α β γ : oT) (nS : Nat) (nO : Nat) (nH : Nat) (hz : oOK α nS nO nH) (hg : pOK γ) : Met l yX4_digest wsX4_digest ({ frames := 6, cells := 0, slots := 0, locals := 141 } : Room) (va_Pc [.ref (G.2.1 0)] (PW G (cw G (z3 α β γ)))) (oR (some (.long (kDig α γ nS nO nH)))) 0 0 (fun _ => False) := by
  refine o_body (cc := cX4_digest) (by decide +kernel) rfl (Nat.le_of_ble_eq_true rfl) ?_
  intro p e s m below meth c ls hx hb hml hr hlocks hown hts hP hK hN hl
  have hown : s.vm.findClass RX4 = some m.cls := hown
  have hl : lv_has ls 4 [(0, .ref (G.2.1 0))] := hl
  obtain ⟨hz1, hz2, hz3, hz4, hz5, hz6, hz7⟩ := id hz
  have hg2 := hg.2
  refine lv_ldc2 hx hb hown (hts (.constantLong RX4 176 (587)) (List.mem_of_getElem? (i := 1) rfl)) dX4_digest_0 ?_
  refine lv_lstore_n (lv' := [(1, .long ((587 : Int64))), (0, .ref (G.2.1 0))]) hx hb dX4_digest_3 rfl hl (by decide) rfl (fun ls hl => ?_)
  refine lv_iconst (v := 0) hx hb dX4_digest_4 (by decide) ?_
  refine lv_istore_n (lv' := [(3, .int 0), (1, .long ((587 : Int64))), (0, .ref (G.2.1 0))]) hx hb dX4_digest_5 rfl hl (by decide) rfl (fun ls hl => ?_)
  have lp6 : ∀ (d6 k : Nat), k + d6 = 8 → ∀ x6_1 : Int64, x6_1 = (kD1 α γ nS nO k) → ∀ x6_3 : Int32, x6_3 = (nI k) → ∀ ls : Array Slot, lv_has ls 4 [(0, .ref (G.2.1 0)), (1, .long (x6_1)), (3, .int x6_3)] → W p l e ({ frames := 6, cells := 0, slots := 0, locals := 141 } : Room) s m ([.ref (G.2.1 0)] : List Value).toArray below meth c s.heap [] 0 0 (MQ below (oR (some (.long (kDig α γ nS nO nH)))) ([.ref (G.2.1 0)] : List Value).toArray s 0 0 (fun _ => False)) (F0 m 6 ls []) := by
    intro d6
    induction d6 with
    | zero =>
      intro k hk6 x6_1 e6_1 x6_3 e6_3 ls hl
      subst e6_1
      subst e6_3
      have hk6 : k = 8 := by omega
      refine lv_iload_n hx hb dX4_digest_6 rfl (lv_at hl 2 rfl) ?_
      refine lv_bipush (v := 8) hx hb dX4_digest_7 (by decide) ?_
      refine lv_icmp_ge (tgt := 28) hx hb dX4_digest_9 (by decide) (fun c9 => ?_) (fun c9 => ?_)
      · have n9 := (o_nle (a := 8) (b := k) (by decide) rfl (by omega) (by omega)).mp c9
        refine lv_iconst (v := 0) hx hb dX4_digest_28 (by decide) ?_
        refine lv_istore_n (lv' := [(3, .int 0), (0, .ref (G.2.1 0)), (1, .long (kD1 α γ nS nO k))]) hx hb dX4_digest_29 rfl hl (by decide) rfl (fun ls hl => ?_)
        have lp30 : ∀ (d30 k2 : Nat), k2 + d30 = nS → ∀ x30_1 : Int64, x30_1 = (kD2 α nO nH (kD1 α γ nS nO k) k2) → ∀ x30_3 : Int32, x30_3 = (nI k2) → ∀ ls : Array Slot, lv_has ls 4 [(0, .ref (G.2.1 0)), (1, .long (x30_1)), (3, .int x30_3)] → W p l e ({ frames := 6, cells := 0, slots := 0, locals := 141 } : Room) s m ([.ref (G.2.1 0)] : List Value).toArray below meth c s.heap [] 0 0 (MQ below (oR (some (.long (kDig α γ nS nO nH)))) ([.ref (G.2.1 0)] : List Value).toArray s 0 0 (fun _ => False)) (F0 m 30 ls []) := by
          intro d30
          induction d30 with
          | zero =>
            intro k2 hk30 x30_1 e30_1 x30_3 e30_3 ls hl
            subst e30_1
            subst e30_3
            have hk30 : k2 = nS := by omega
            refine lv_iload_n hx hb dX4_digest_30 rfl (lv_at hl 2 rfl) ?_
            refine lv_aload_n hx hb dX4_digest_31 rfl (lv_at hl 0 rfl) ?_
            refine va_get (D := G.1) (ci := 6) (v := .ref (ta G 0 (0))) (C := RX4) (T := TX4) (N := 3) hx hb hts (fun w9 h9 => List.mem_cons_of_mem _ (List.mem_append_left _ (List.mem_append_left _ (List.mem_append_left _ (List.mem_append_left _ (List.mem_append_left _ (List.mem_append_right _ (h9)))))))) hown hK hP (0) (cx_C G (z3 α β γ)) rfl 0 (by decide) (hts (.fieldLink RX4 10 "OrganCensus" "town" "LOrganCensus$Town;") (List.mem_of_getElem? (i := 2) rfl)) (fun _ h9 => h9) rfl dX4_digest_32 ?_
            refine va_get (D := G.1) (ci := 5) (v := .int (α 18 0 0)) (C := RX3) (T := TX3) (N := 5) hx hb hts (fun w9 h9 => List.mem_cons_of_mem _ (List.mem_append_left _ (List.mem_append_left _ (List.mem_append_left _ (List.mem_append_left _ (List.mem_append_right _ (h9))))))) hown hK hP (1 + 67 * 0 + (0)) (cx_T G (z3 α β γ) (show 0 < 2 by decide)) rfl 2 (by decide) (hts (.fieldLink RX4 30 "OrganCensus$Town" "streetCount" "I") (List.mem_of_getElem? (i := 3) rfl)) (fun _ h9 => h9) rfl dX4_digest_35 ?_
            refine lv_icmp_ge (tgt := 54) hx hb dX4_digest_38 (by decide) (fun c38 => ?_) (fun c38 => ?_)
            · have n38 := (o_nle (a := nS) (b := k2) hz.1 rfl (by omega) (by omega)).mp c38
              refine lv_iconst (v := 0) hx hb dX4_digest_54 (by decide) ?_
              refine lv_istore_n (lv' := [(3, .int 0), (0, .ref (G.2.1 0)), (1, .long (kD2 α nO nH (kD1 α γ nS nO k) k2))]) hx hb dX4_digest_55 rfl hl (by decide) rfl (fun ls hl => ?_)
              have lp56 : ∀ (d56 k3 : Nat), k3 + d56 = nO → ∀ x56_1 : Int64, x56_1 = (kD3 α nS (kD2 α nO nH (kD1 α γ nS nO k) k2) k3) → ∀ x56_3 : Int32, x56_3 = (nI k3) → ∀ ls : Array Slot, lv_has ls 4 [(0, .ref (G.2.1 0)), (1, .long (x56_1)), (3, .int x56_3)] → W p l e ({ frames := 6, cells := 0, slots := 0, locals := 141 } : Room) s m ([.ref (G.2.1 0)] : List Value).toArray below meth c s.heap [] 0 0 (MQ below (oR (some (.long (kDig α γ nS nO nH)))) ([.ref (G.2.1 0)] : List Value).toArray s 0 0 (fun _ => False)) (F0 m 56 ls []) := by
                intro d56
                induction d56 with
                | zero =>
                  intro k3 hk56 x56_1 e56_1 x56_3 e56_3 ls hl
                  subst e56_1
                  subst e56_3
                  have hk56 : k3 = nO := by omega
                  refine lv_iload_n hx hb dX4_digest_56 rfl (lv_at hl 2 rfl) ?_
                  refine lv_aload_n hx hb dX4_digest_57 rfl (lv_at hl 0 rfl) ?_
                  refine va_get (D := G.1) (ci := 6) (v := .ref (ta G 0 (0))) (C := RX4) (T := TX4) (N := 3) hx hb hts (fun w9 h9 => List.mem_cons_of_mem _ (List.mem_append_left _ (List.mem_append_left _ (List.mem_append_left _ (List.mem_append_left _ (List.mem_append_left _ (List.mem_append_right _ (h9)))))))) hown hK hP (0) (cx_C G (z3 α β γ)) rfl 0 (by decide) (hts (.fieldLink RX4 10 "OrganCensus" "town" "LOrganCensus$Town;") (List.mem_of_getElem? (i := 2) rfl)) (fun _ h9 => h9) rfl dX4_digest_58 ?_
                  refine va_get (D := G.1) (ci := 5) (v := .int (α 18 0 1)) (C := RX3) (T := TX3) (N := 5) hx hb hts (fun w9 h9 => List.mem_cons_of_mem _ (List.mem_append_left _ (List.mem_append_left _ (List.mem_append_left _ (List.mem_append_left _ (List.mem_append_right _ (h9))))))) hown hK hP (1 + 67 * 0 + (0)) (cx_T G (z3 α β γ) (show 0 < 2 by decide)) rfl 3 (by decide) (hts (.fieldLink RX4 76 "OrganCensus$Town" "organCount" "I") (List.mem_of_getElem? (i := 4) rfl)) (fun _ h9 => h9) rfl dX4_digest_61 ?_
                  refine lv_icmp_ge (tgt := 80) hx hb dX4_digest_64 (by decide) (fun c64 => ?_) (fun c64 => ?_)
                  · have n64 := (o_nle (a := nO) (b := k3) hz.2.2.1 rfl (by omega) (by omega)).mp c64
                    refine lv_iconst (v := 0) hx hb dX4_digest_80 (by decide) ?_
                    refine lv_istore_n (lv' := [(3, .int 0), (0, .ref (G.2.1 0)), (1, .long (kD3 α nS (kD2 α nO nH (kD1 α γ nS nO k) k2) k3))]) hx hb dX4_digest_81 rfl hl (by decide) rfl (fun ls hl => ?_)
                    have lp82 : ∀ (d82 k4 : Nat), k4 + d82 = oN (γ 0 0 0) → ∀ x82_1 : Int64, x82_1 = (kD4 γ (kD3 α nS (kD2 α nO nH (kD1 α γ nS nO k) k2) k3) k4) → ∀ x82_3 : Int32, x82_3 = (nI k4) → ∀ ls : Array Slot, lv_has ls 4 [(0, .ref (G.2.1 0)), (1, .long (x82_1)), (3, .int x82_3)] → W p l e ({ frames := 6, cells := 0, slots := 0, locals := 141 } : Room) s m ([.ref (G.2.1 0)] : List Value).toArray below meth c s.heap [] 0 0 (MQ below (oR (some (.long (kDig α γ nS nO nH)))) ([.ref (G.2.1 0)] : List Value).toArray s 0 0 (fun _ => False)) (F0 m 82 ls []) := by
                      intro d82
                      induction d82 with
                      | zero =>
                        intro k4 hk82 x82_1 e82_1 x82_3 e82_3 ls hl
                        subst e82_1
                        subst e82_3
                        have hk82 : k4 = oN (γ 0 0 0) := by omega
                        refine lv_iload_n hx hb dX4_digest_82 rfl (lv_at hl 2 rfl) ?_
                        refine lv_aload_n hx hb dX4_digest_83 rfl (lv_at hl 0 rfl) ?_
                        refine va_get (D := G.1) (ci := 6) (v := .ref (G.2.1 135)) (C := RX4) (T := TX4) (N := 3) hx hb hts (fun w9 h9 => List.mem_cons_of_mem _ (List.mem_append_left _ (List.mem_append_left _ (List.mem_append_left _ (List.mem_append_left _ (List.mem_append_left _ (List.mem_append_right _ (h9)))))))) hown hK hP (0) (cx_C G (z3 α β γ)) rfl 2 (by decide) (hts (.fieldLink RX4 22 "OrganCensus" "paper" "LOrganCensus$Paper;") (List.mem_of_getElem? (i := 5) rfl)) (fun _ h9 => h9) rfl dX4_digest_84 ?_
                        refine va_get (D := G.1) (ci := 3) (v := .int (γ 0 0 0)) (C := RX1) (T := TX1) (N := 2) hx hb hts (fun w9 h9 => List.mem_cons_of_mem _ (List.mem_append_left _ (List.mem_append_left _ (List.mem_append_left _ (List.mem_append_right _ (h9)))))) hown hK hP (135) (cx_P G (z3 α β γ)) rfl 1 (by decide) (hts (.fieldLink RX4 130 "OrganCensus$Paper" "length" "I") (List.mem_of_getElem? (i := 6) rfl)) (fun _ h9 => h9) rfl dX4_digest_87 ?_
                        refine lv_icmp_ge (tgt := 113) hx hb dX4_digest_90 (by decide) (fun c90 => ?_) (fun c90 => ?_)
                        · have n90 := (o_nle (a := oN (γ 0 0 0)) (b := k4) hg.1 rfl (by omega) (by omega)).mp c90
                          refine lv_lload_n hx hb dX4_digest_113 rfl (lv_at hl 1 rfl) ?_
                          exact o_lretR hx hb hr hlocks dX4_digest_114 (by subst hk6; subst hk30; subst hk56; subst hk82; rfl)
                        · have n90 := (mt (o_nle (a := oN (γ 0 0 0)) (b := k4) hg.1 rfl (by omega) (by omega)).mpr) c90; omega
                      | succ d82 ih82 =>
                        intro k4 hk82 x82_1 e82_1 x82_3 e82_3 ls hl
                        subst e82_1
                        subst e82_3
                        have hj82 : k4 < oN (γ 0 0 0) := by omega
                        refine lv_iload_n hx hb dX4_digest_82 rfl (lv_at hl 2 rfl) ?_
                        refine lv_aload_n hx hb dX4_digest_83 rfl (lv_at hl 0 rfl) ?_
                        refine va_get (D := G.1) (ci := 6) (v := .ref (G.2.1 135)) (C := RX4) (T := TX4) (N := 3) hx hb hts (fun w9 h9 => List.mem_cons_of_mem _ (List.mem_append_left _ (List.mem_append_left _ (List.mem_append_left _ (List.mem_append_left _ (List.mem_append_left _ (List.mem_append_right _ (h9)))))))) hown hK hP (0) (cx_C G (z3 α β γ)) rfl 2 (by decide) (hts (.fieldLink RX4 22 "OrganCensus" "paper" "LOrganCensus$Paper;") (List.mem_of_getElem? (i := 5) rfl)) (fun _ h9 => h9) rfl dX4_digest_84 ?_
                        refine va_get (D := G.1) (ci := 3) (v := .int (γ 0 0 0)) (C := RX1) (T := TX1) (N := 2) hx hb hts (fun w9 h9 => List.mem_cons_of_mem _ (List.mem_append_left _ (List.mem_append_left _ (List.mem_append_left _ (List.mem_append_right _ (h9)))))) hown hK hP (135) (cx_P G (z3 α β γ)) rfl 1 (by decide) (hts (.fieldLink RX4 130 "OrganCensus$Paper" "length" "I") (List.mem_of_getElem? (i := 6) rfl)) (fun _ h9 => h9) rfl dX4_digest_87 ?_
                        refine lv_icmp_ge (tgt := 113) hx hb dX4_digest_90 (by decide) (fun c90 => ?_) (fun c90 => ?_)
                        · have n90 := (o_nle (a := oN (γ 0 0 0)) (b := k4) hg.1 rfl (by omega) (by omega)).mp c90; omega
                        · have n90 := (mt (o_nle (a := oN (γ 0 0 0)) (b := k4) hg.1 rfl (by omega) (by omega)).mpr) c90
                          refine lv_lload_n hx hb dX4_digest_93 rfl (lv_at hl 1 rfl) ?_
                          refine lv_aload_n hx hb dX4_digest_94 rfl (lv_at hl 0 rfl) ?_
                          refine va_get (D := G.1) (ci := 6) (v := .ref (G.2.1 135)) (C := RX4) (T := TX4) (N := 3) hx hb hts (fun w9 h9 => List.mem_cons_of_mem _ (List.mem_append_left _ (List.mem_append_left _ (List.mem_append_left _ (List.mem_append_left _ (List.mem_append_left _ (List.mem_append_right _ (h9)))))))) hown hK hP (0) (cx_C G (z3 α β γ)) rfl 2 (by decide) (hts (.fieldLink RX4 22 "OrganCensus" "paper" "LOrganCensus$Paper;") (List.mem_of_getElem? (i := 5) rfl)) (fun _ h9 => h9) rfl dX4_digest_95 ?_
                          refine va_get (D := G.1) (ci := 3) (v := .ref (G.2.1 136)) (C := RX1) (T := TX1) (N := 2) hx hb hts (fun w9 h9 => List.mem_cons_of_mem _ (List.mem_append_left _ (List.mem_append_left _ (List.mem_append_left _ (List.mem_append_right _ (h9)))))) hown hK hP (135) (cx_P G (z3 α β γ)) rfl 0 (by decide) (hts (.fieldLink RX4 169 "OrganCensus$Paper" "bytes" "[B") (List.mem_of_getElem? (i := 7) rfl)) (fun _ h9 => h9) rfl dX4_digest_98 ?_
                          refine lv_iload_n hx hb dX4_digest_101 rfl (lv_at hl 2 rfl) ?_
                          refine o_bald (k := k4) hx hb hK hP (136) 3 (cx_PB G (z3 α β γ)) rfl rfl (by omega) (by decide) dX4_digest_102 ?_
                          refine o_cSl [.long (kD4 γ (kD3 α nS (kD2 α nO nH (kD1 α γ nS nO k) k2) k3) k4), .int (γ 1 0 k4)] [] ⟨hx, hb, hml, hown, hts⟩ (m_X4_mix l G α β γ (kD4 γ (kD3 α nS (kD2 α nO nH (kD1 α γ nS nO k) k2) k3) k4) (γ 1 0 k4)) (va_cwS 2 hts gX4_digest_X4_mix rfl rfl rfl (by decide +kernel) ⟨Nat.le_of_ble_eq_true rfl, Nat.le_of_ble_eq_true rfl⟩) hK hN hP rfl hl.1 rfl (Nat.le_of_ble_eq_true rfl) dX4_digest_103 ⟨Nat.zero_le _, Nat.zero_le _⟩ ?_
                          refine lv_lstore_n (lv' := [(1, .long (kMix (kD4 γ (kD3 α nS (kD2 α nO nH (kD1 α γ nS nO k) k2) k3) k4) (γ 1 0 k4))), (0, .ref (G.2.1 0)), (3, .int (nI k4))]) hx hb dX4_digest_106 rfl hl (by decide) rfl (fun ls hl => ?_)
                          refine lv_iinc (v := nI (k4 + 1)) (lv' := [(3, .int (nI (k4 + 1))), (1, .long (kMix (kD4 γ (kD3 α nS (kD2 α nO nH (kD1 α γ nS nO k) k2) k3) k4) (γ 1 0 k4))), (0, .ref (G.2.1 0))]) hx hb dX4_digest_107 hl (k := 2) rfl (nI_1 k4) (by decide) rfl (fun ls hl => ?_)
                          refine lv_goto (tgt := 82) hx hb dX4_digest_110 (by decide) ?_
                          exact ih82 (k4 + 1) (by omega) _ (rfl) _ (rfl) ls (lv_sub hl [2, 1, 0] rfl)
                    exact lp82 (oN (γ 0 0 0)) 0 (by omega) _ (rfl) _ (rfl) ls (lv_sub hl [1, 2, 0] rfl)
                  · have n64 := (mt (o_nle (a := nO) (b := k3) hz.2.2.1 rfl (by omega) (by omega)).mpr) c64; omega
                | succ d56 ih56 =>
                  intro k3 hk56 x56_1 e56_1 x56_3 e56_3 ls hl
                  subst e56_1
                  subst e56_3
                  have hj56 : k3 < nO := by omega
                  refine lv_iload_n hx hb dX4_digest_56 rfl (lv_at hl 2 rfl) ?_
                  refine lv_aload_n hx hb dX4_digest_57 rfl (lv_at hl 0 rfl) ?_
                  refine va_get (D := G.1) (ci := 6) (v := .ref (ta G 0 (0))) (C := RX4) (T := TX4) (N := 3) hx hb hts (fun w9 h9 => List.mem_cons_of_mem _ (List.mem_append_left _ (List.mem_append_left _ (List.mem_append_left _ (List.mem_append_left _ (List.mem_append_left _ (List.mem_append_right _ (h9)))))))) hown hK hP (0) (cx_C G (z3 α β γ)) rfl 0 (by decide) (hts (.fieldLink RX4 10 "OrganCensus" "town" "LOrganCensus$Town;") (List.mem_of_getElem? (i := 2) rfl)) (fun _ h9 => h9) rfl dX4_digest_58 ?_
                  refine va_get (D := G.1) (ci := 5) (v := .int (α 18 0 1)) (C := RX3) (T := TX3) (N := 5) hx hb hts (fun w9 h9 => List.mem_cons_of_mem _ (List.mem_append_left _ (List.mem_append_left _ (List.mem_append_left _ (List.mem_append_left _ (List.mem_append_right _ (h9))))))) hown hK hP (1 + 67 * 0 + (0)) (cx_T G (z3 α β γ) (show 0 < 2 by decide)) rfl 3 (by decide) (hts (.fieldLink RX4 76 "OrganCensus$Town" "organCount" "I") (List.mem_of_getElem? (i := 4) rfl)) (fun _ h9 => h9) rfl dX4_digest_61 ?_
                  refine lv_icmp_ge (tgt := 80) hx hb dX4_digest_64 (by decide) (fun c64 => ?_) (fun c64 => ?_)
                  · have n64 := (o_nle (a := nO) (b := k3) hz.2.2.1 rfl (by omega) (by omega)).mp c64; omega
                  · have n64 := (mt (o_nle (a := nO) (b := k3) hz.2.2.1 rfl (by omega) (by omega)).mpr) c64
                    refine lv_aload_n hx hb dX4_digest_67 rfl (lv_at hl 0 rfl) ?_
                    refine lv_lload_n hx hb dX4_digest_68 rfl (lv_at hl 1 rfl) ?_
                    refine lv_iload_n hx hb dX4_digest_69 rfl (lv_at hl 2 rfl) ?_
                    refine o_cVl (q0 := 0) (ci := 6) [.long (kD3 α nS (kD2 α nO nH (kD1 α γ nS nO k) k2) k3), .int (nI k3)] [] ⟨hx, hb, hml, hown, hts⟩ (m_X4_mixOrgan l G α β γ nS nO nH hz (kD3 α nS (kD2 α nO nH (kD1 α γ nS nO k) k2) k3) k3 (nI k3) (rfl) (by omega)) (cwV 2 hts gX4_digest_X4_mixOrgan rfl rfl rfl (by decide +kernel) ⟨Nat.le_of_ble_eq_true rfl, Nat.le_of_ble_eq_true rfl⟩) hK hN hP rfl rfl (cx_C G (z3 α β γ)) rfl hl.1 rfl (Nat.le_of_ble_eq_true rfl) dX4_digest_70 ⟨Nat.zero_le _, Nat.zero_le _⟩ ?_
                    refine lv_lstore_n (lv' := [(1, .long (kMB α k3 (kMO α k3 (kD3 α nS (kD2 α nO nH (kD1 α γ nS nO k) k2) k3) 11) nS)), (0, .ref (G.2.1 0)), (3, .int (nI k3))]) hx hb dX4_digest_73 rfl hl (by decide) rfl (fun ls hl => ?_)
                    refine lv_iinc (v := nI (k3 + 1)) (lv' := [(3, .int (nI (k3 + 1))), (1, .long (kMB α k3 (kMO α k3 (kD3 α nS (kD2 α nO nH (kD1 α γ nS nO k) k2) k3) 11) nS)), (0, .ref (G.2.1 0))]) hx hb dX4_digest_74 hl (k := 2) rfl (nI_1 k3) (by decide) rfl (fun ls hl => ?_)
                    refine lv_goto (tgt := 56) hx hb dX4_digest_77 (by decide) ?_
                    exact ih56 (k3 + 1) (by omega) _ (rfl) _ (rfl) ls (lv_sub hl [2, 1, 0] rfl)
              exact lp56 (nO) 0 (by omega) _ (rfl) _ (rfl) ls (lv_sub hl [1, 2, 0] rfl)
            · have n38 := (mt (o_nle (a := nS) (b := k2) hz.1 rfl (by omega) (by omega)).mpr) c38; omega
          | succ d30 ih30 =>
            intro k2 hk30 x30_1 e30_1 x30_3 e30_3 ls hl
            subst e30_1
            subst e30_3
            have hj30 : k2 < nS := by omega
            refine lv_iload_n hx hb dX4_digest_30 rfl (lv_at hl 2 rfl) ?_
            refine lv_aload_n hx hb dX4_digest_31 rfl (lv_at hl 0 rfl) ?_
            refine va_get (D := G.1) (ci := 6) (v := .ref (ta G 0 (0))) (C := RX4) (T := TX4) (N := 3) hx hb hts (fun w9 h9 => List.mem_cons_of_mem _ (List.mem_append_left _ (List.mem_append_left _ (List.mem_append_left _ (List.mem_append_left _ (List.mem_append_left _ (List.mem_append_right _ (h9)))))))) hown hK hP (0) (cx_C G (z3 α β γ)) rfl 0 (by decide) (hts (.fieldLink RX4 10 "OrganCensus" "town" "LOrganCensus$Town;") (List.mem_of_getElem? (i := 2) rfl)) (fun _ h9 => h9) rfl dX4_digest_32 ?_
            refine va_get (D := G.1) (ci := 5) (v := .int (α 18 0 0)) (C := RX3) (T := TX3) (N := 5) hx hb hts (fun w9 h9 => List.mem_cons_of_mem _ (List.mem_append_left _ (List.mem_append_left _ (List.mem_append_left _ (List.mem_append_left _ (List.mem_append_right _ (h9))))))) hown hK hP (1 + 67 * 0 + (0)) (cx_T G (z3 α β γ) (show 0 < 2 by decide)) rfl 2 (by decide) (hts (.fieldLink RX4 30 "OrganCensus$Town" "streetCount" "I") (List.mem_of_getElem? (i := 3) rfl)) (fun _ h9 => h9) rfl dX4_digest_35 ?_
            refine lv_icmp_ge (tgt := 54) hx hb dX4_digest_38 (by decide) (fun c38 => ?_) (fun c38 => ?_)
            · have n38 := (o_nle (a := nS) (b := k2) hz.1 rfl (by omega) (by omega)).mp c38; omega
            · have n38 := (mt (o_nle (a := nS) (b := k2) hz.1 rfl (by omega) (by omega)).mpr) c38
              refine lv_aload_n hx hb dX4_digest_41 rfl (lv_at hl 0 rfl) ?_
              refine lv_lload_n hx hb dX4_digest_42 rfl (lv_at hl 1 rfl) ?_
              refine lv_iload_n hx hb dX4_digest_43 rfl (lv_at hl 2 rfl) ?_
              refine o_cVl (q0 := 0) (ci := 6) [.long (kD2 α nO nH (kD1 α γ nS nO k) k2), .int (nI k2)] [] ⟨hx, hb, hml, hown, hts⟩ (m_X4_mixStreet l G α β γ nS nO nH hz (kD2 α nO nH (kD1 α γ nS nO k) k2) k2 (nI k2) (rfl) (by omega)) (cwV 2 hts gX4_digest_X4_mixStreet rfl rfl rfl (by decide +kernel) ⟨Nat.le_of_ble_eq_true rfl, Nat.le_of_ble_eq_true rfl⟩) hK hN hP rfl rfl (cx_C G (z3 α β γ)) rfl hl.1 rfl (Nat.le_of_ble_eq_true rfl) dX4_digest_44 ⟨Nat.zero_le _, Nat.zero_le _⟩ ?_
              refine lv_lstore_n (lv' := [(1, .long (kMT α k2 (kMS α nO nH k2 (kD2 α nO nH (kD1 α γ nS nO k) k2) 8) 6)), (0, .ref (G.2.1 0)), (3, .int (nI k2))]) hx hb dX4_digest_47 rfl hl (by decide) rfl (fun ls hl => ?_)
              refine lv_iinc (v := nI (k2 + 1)) (lv' := [(3, .int (nI (k2 + 1))), (1, .long (kMT α k2 (kMS α nO nH k2 (kD2 α nO nH (kD1 α γ nS nO k) k2) 8) 6)), (0, .ref (G.2.1 0))]) hx hb dX4_digest_48 hl (k := 2) rfl (nI_1 k2) (by decide) rfl (fun ls hl => ?_)
              refine lv_goto (tgt := 30) hx hb dX4_digest_51 (by decide) ?_
              exact ih30 (k2 + 1) (by omega) _ (rfl) _ (rfl) ls (lv_sub hl [2, 1, 0] rfl)
        exact lp30 (nS) 0 (by omega) _ (rfl) _ (rfl) ls (lv_sub hl [1, 2, 0] rfl)
      · have n9 := (mt (o_nle (a := 8) (b := k) (by decide) rfl (by omega) (by omega)).mpr) c9; omega
    | succ d6 ih6 =>
      intro k hk6 x6_1 e6_1 x6_3 e6_3 ls hl
      subst e6_1
      subst e6_3
      have hj6 : k < 8 := by omega
      refine lv_iload_n hx hb dX4_digest_6 rfl (lv_at hl 2 rfl) ?_
      refine lv_bipush (v := 8) hx hb dX4_digest_7 (by decide) ?_
      refine lv_icmp_ge (tgt := 28) hx hb dX4_digest_9 (by decide) (fun c9 => ?_) (fun c9 => ?_)
      · have n9 := (o_nle (a := 8) (b := k) (by decide) rfl (by omega) (by omega)).mp c9; omega
      · have n9 := (mt (o_nle (a := 8) (b := k) (by decide) rfl (by omega) (by omega)).mpr) c9
        refine lv_lload_n hx hb dX4_digest_12 rfl (lv_at hl 1 rfl) ?_
        refine lv_aload_n hx hb dX4_digest_13 rfl (lv_at hl 0 rfl) ?_
        refine lv_iload_n hx hb dX4_digest_14 rfl (lv_at hl 2 rfl) ?_
        refine o_cVi (q0 := 0) (ci := 6) [.int (nI k)] [.long (kD1 α γ nS nO k)] ⟨hx, hb, hml, hown, hts⟩ (m_X4_count l G α β γ nS nO nH hz (nI k) (oIn_of (n := 8) (i := k) (by omega) (by decide))) (cwV 1 hts gX4_digest_X4_count rfl rfl rfl (by decide +kernel) ⟨Nat.le_of_ble_eq_true rfl, Nat.le_of_ble_eq_true rfl⟩) hK hN hP rfl rfl (cx_C G (z3 α β γ)) rfl hl.1 rfl (Nat.le_of_ble_eq_true rfl) dX4_digest_15 ⟨Nat.zero_le _, Nat.zero_le _⟩ ?_
        rw [oN_nI (show k < 2 ^ 31 by omega)]
        refine o_cSl [.long (kD1 α γ nS nO k), .int (kCnt α γ nS nO k)] [] ⟨hx, hb, hml, hown, hts⟩ (m_X4_mix l G α β γ (kD1 α γ nS nO k) (kCnt α γ nS nO k)) (va_cwS 2 hts gX4_digest_X4_mix rfl rfl rfl (by decide +kernel) ⟨Nat.le_of_ble_eq_true rfl, Nat.le_of_ble_eq_true rfl⟩) hK hN hP rfl hl.1 rfl (Nat.le_of_ble_eq_true rfl) dX4_digest_18 ⟨Nat.zero_le _, Nat.zero_le _⟩ ?_
        refine lv_lstore_n (lv' := [(1, .long (kMix (kD1 α γ nS nO k) (kCnt α γ nS nO k))), (0, .ref (G.2.1 0)), (3, .int (nI k))]) hx hb dX4_digest_21 rfl hl (by decide) rfl (fun ls hl => ?_)
        refine lv_iinc (v := nI (k + 1)) (lv' := [(3, .int (nI (k + 1))), (1, .long (kMix (kD1 α γ nS nO k) (kCnt α γ nS nO k))), (0, .ref (G.2.1 0))]) hx hb dX4_digest_22 hl (k := 2) rfl (nI_1 k) (by decide) rfl (fun ls hl => ?_)
        refine lv_goto (tgt := 6) hx hb dX4_digest_25 (by decide) ?_
        exact ih6 (k + 1) (by omega) _ (rfl) _ (rfl) ls (lv_sub hl [2, 1, 0] rfl)
  exact lp6 (8) 0 (by omega) _ (rfl) _ (rfl) ls (lv_sub hl [2, 1, 0] rfl)
set_option maxHeartbeats 4000000 in
set_option maxRecDepth 100000 in
theorem m_X1_writeByte (l : Launch) (G : oG) (hI : wl_I G.2.1 137) (α β γ : oT) (hg : pOK γ) (x : Int32) : Met l yX1_writeByte wsX1_writeByte ({ frames := 0, cells := 0, slots := 0, locals := 0 } : Room) (va_Pc [.ref (G.2.1 135), .int x] (PW G (cw G (z3 α β γ)))) (oQ none (fun H9 => va_P G.1 vwCl (cw G (z3 α β (pW γ x))) H9) (oA G)) 0 0 (oA G) := by
  refine o_body (cc := cX1_writeByte) (by decide +kernel) rfl (Nat.le_of_ble_eq_true rfl) ?_
  intro p e s m below meth c ls hx hb hml hr hlocks hown hts hP hK hN hl
  have hown : s.vm.findClass RX1 = some m.cls := hown
  have hl : lv_has ls 2 [(0, .ref (G.2.1 135)), (1, .int x)] := hl
  have hS : va_S (oA G) s.heap s.heap [] := va_S.rf
  have hg2 := hg.2
  refine lv_aload_n hx hb dX1_writeByte_0 rfl (lv_at hl 0 rfl) ?_
  refine va_get (D := G.1) (ci := 3) (v := .int (γ 0 0 0)) (C := RX1) (T := TX1) (N := 2) hx hb hts (fun w9 h9 => List.mem_cons_of_mem _ (List.mem_append_right _ (h9))) hown hK hP (135) (cx_P G (z3 α β γ)) rfl 1 (by decide) (hts (.fieldLink RX1 15 "OrganCensus$Paper" "length" "I") (List.mem_of_getElem? (i := 1) rfl)) (fun _ h9 => h9) rfl dX1_writeByte_1 ?_
  refine lv_if_lt (tgt := 38) hx hb dX1_writeByte_4 (by decide) (fun c4 => ?_) (fun c4 => ?_)
  · exact absurd c4 (by rw [hg.1]; exact nI_pos (by omega))
  · refine lv_aload_n hx hb dX1_writeByte_7 rfl (lv_at hl 0 rfl) ?_
    refine va_get (D := G.1) (ci := 3) (v := .int (γ 0 0 0)) (C := RX1) (T := TX1) (N := 2) hx hb hts (fun w9 h9 => List.mem_cons_of_mem _ (List.mem_append_right _ (h9))) hown hK hP (135) (cx_P G (z3 α β γ)) rfl 1 (by decide) (hts (.fieldLink RX1 15 "OrganCensus$Paper" "length" "I") (List.mem_of_getElem? (i := 1) rfl)) (fun _ h9 => h9) rfl dX1_writeByte_8 ?_
    refine lv_sipush (v := 320) hx hb dX1_writeByte_11 (by decide) ?_
    refine lv_icmp_ge (tgt := 38) hx hb dX1_writeByte_14 (by decide) (fun c14 => ?_) (fun c14 => ?_)
    · have n14 := (o_nle (a := 320) (b := oN (γ 0 0 0)) (by decide) hg.1 (by omega) (by omega)).mp c14
      exact o_vretM hx hb hr hlocks hS dX1_writeByte_38 (by first | (rw [show pW γ x = su (su γ 1 0 (oN (γ 0 0 0)) x.toInt8.toInt32) 0 0 0 (nI (oN (γ 0 0 0) + 1)) from if_pos (by omega)]; exact hP) | (rw [show pW γ x = γ from if_neg (by omega)]; exact hP))
    · have n14 := (mt (o_nle (a := 320) (b := oN (γ 0 0 0)) (by decide) hg.1 (by omega) (by omega)).mpr) c14
      refine lv_aload_n hx hb dX1_writeByte_17 rfl (lv_at hl 0 rfl) ?_
      refine va_get (D := G.1) (ci := 3) (v := .ref (G.2.1 136)) (C := RX1) (T := TX1) (N := 2) hx hb hts (fun w9 h9 => List.mem_cons_of_mem _ (List.mem_append_right _ (h9))) hown hK hP (135) (cx_P G (z3 α β γ)) rfl 0 (by decide) (hts (.fieldLink RX1 9 "OrganCensus$Paper" "bytes" "[B") (List.mem_of_getElem? (i := 2) rfl)) (fun _ h9 => h9) rfl dX1_writeByte_18 ?_
      refine lv_aload_n hx hb dX1_writeByte_21 rfl (lv_at hl 0 rfl) ?_
      refine va_get (D := G.1) (ci := 3) (v := .int (γ 0 0 0)) (C := RX1) (T := TX1) (N := 2) hx hb hts (fun w9 h9 => List.mem_cons_of_mem _ (List.mem_append_right _ (h9))) hown hK hP (135) (cx_P G (z3 α β γ)) rfl 1 (by decide) (hts (.fieldLink RX1 15 "OrganCensus$Paper" "length" "I") (List.mem_of_getElem? (i := 1) rfl)) (fun _ h9 => h9) rfl dX1_writeByte_22 ?_
      refine lv_iload_n hx hb dX1_writeByte_25 rfl (lv_at hl 1 rfl) ?_
      refine lv_i2b (v := x.toInt8.toInt32) hx hb dX1_writeByte_26 rfl ?_
      refine o_bast (k := oN (γ 0 0 0)) hx hb hK hP (cw_D G _ hI) hS (136) 3 (cx_PB G (z3 α β γ)) rfl hg.1 (by omega) (by decide) rfl dX1_writeByte_27 (fun H locs hP hD hS => ?_)
      have hP : va_P G.1 vwCl (cw G (z3 α β (su γ 1 0 (oN (γ 0 0 0)) x.toInt8.toInt32))) H := by rw [← (cw_zP (a := α) (b := β) (c := γ) (τ' := su γ 1 0 (oN (γ 0 0 0)) x.toInt8.toInt32) (cu_PB G (z3 α β γ) (oN (γ 0 0 0)) x.toInt8.toInt32))]; exact hP
      clear hD
      refine lv_aload_n hx hb dX1_writeByte_28 rfl (lv_at hl 0 rfl) ?_
      refine lv_dup hx hb dX1_writeByte_29 rfl ?_
      refine va_get (D := G.1) (ci := 3) (v := .int ((su γ 1 0 (oN (γ 0 0 0)) x.toInt8.toInt32) 0 0 0)) (C := RX1) (T := TX1) (N := 2) hx hb hts (fun w9 h9 => List.mem_cons_of_mem _ (List.mem_append_right _ (h9))) hown hK hP (135) (cx_P G (z3 α β (su γ 1 0 (oN (γ 0 0 0)) x.toInt8.toInt32))) rfl 1 (by decide) (hts (.fieldLink RX1 15 "OrganCensus$Paper" "length" "I") (List.mem_of_getElem? (i := 1) rfl)) (fun _ h9 => h9) rfl dX1_writeByte_30 ?_
      refine lv_iconst (v := 1) hx hb dX1_writeByte_33 (by decide) ?_
      refine lv_iadd hx hb dX1_writeByte_34 ?_
      rw [show (su γ 1 0 (oN (γ 0 0 0)) x.toInt8.toInt32) 0 0 0 + 1 = nI (oN (γ 0 0 0) + 1) from by rw [su_k _ _ _ _ (by decide), ← nI_1]; exact congrArg (· + 1) hg.1]
      refine va_put (D := G.1) (ci := 3) (v := .int (nI (oN (γ 0 0 0) + 1))) (ty := .int) (C := RX1) (T := TX1) (N := 2) hx hb hts (fun w9 h9 => List.mem_cons_of_mem _ (List.mem_append_right _ (h9))) tyX1 tyX1_ok nmX1 hown hK hP (cw_D G _ hI) hS (135) (cx_P G (z3 α β (su γ 1 0 (oN (γ 0 0 0)) x.toInt8.toInt32))) rfl 1 (by decide) (hts (.fieldLink RX1 15 "OrganCensus$Paper" "length" "I") (List.mem_of_getElem? (i := 1) rfl)) (fun _ h9 => h9) rfl (by decide +kernel) rfl rfl (Nat.le_of_ble_eq_true rfl) dX1_writeByte_35 (fun H locs hP hD hS => ?_)
      have hP : va_P G.1 vwCl (cw G (z3 α β (su (su γ 1 0 (oN (γ 0 0 0)) x.toInt8.toInt32) 0 0 0 (nI (oN (γ 0 0 0) + 1))))) H := by rw [← (cw_zP (a := α) (b := β) (c := (su γ 1 0 (oN (γ 0 0 0)) x.toInt8.toInt32)) (τ' := su (su γ 1 0 (oN (γ 0 0 0)) x.toInt8.toInt32) 0 0 0 (nI (oN (γ 0 0 0) + 1))) (cu_P G (z3 α β (su γ 1 0 (oN (γ 0 0 0)) x.toInt8.toInt32)) (nI (oN (γ 0 0 0) + 1))))]; exact hP
      clear hD
      exact o_vretM hx hb hr hlocks hS dX1_writeByte_38 (by first | (rw [show pW γ x = su (su γ 1 0 (oN (γ 0 0 0)) x.toInt8.toInt32) 0 0 0 (nI (oN (γ 0 0 0) + 1)) from if_pos (by omega)]; exact hP) | (rw [show pW γ x = γ from if_neg (by omega)]; exact hP))
set_option maxHeartbeats 4000000 in
set_option maxRecDepth 100000 in
theorem m_X1_writeNumber (l : Launch) (G : oG) (hI : wl_I G.2.1 137) (α β γ : oT) (hg : pOK γ) (v : Nat) (av : Int32) (ev : av = nI v) (hv : v < 2 ^ 31) : Met l yX1_writeNumber wsX1_writeNumber ({ frames := 1, cells := 0, slots := 0, locals := 21 } : Room) (va_Pc [.ref (G.2.1 135), .int av] (PW G (cw G (z3 α β γ)))) (oQ none (fun H9 => va_P G.1 vwCl (cw G (z3 α β (kNum γ v))) H9) (oA G)) 0 0 (oA G) := by
  subst ev
  refine o_body (cc := cX1_writeNumber) (by decide +kernel) rfl (Nat.le_of_ble_eq_true rfl) ?_
  intro p e s m below meth c ls hx hb hml hr hlocks hown hts hP hK hN hl
  have hown : s.vm.findClass RX1 = some m.cls := hown
  have hl : lv_has ls 5 [(0, .ref (G.2.1 135)), (1, .int (nI v))] := hl
  have hS : va_S (oA G) s.heap s.heap [] := va_S.rf
  have hd10 := oDg_10 hv
  refine lv_lconst (v := (1 : Int64)) hx hb dX1_writeNumber_0 (by decide) ?_
  refine lv_lstore_n (lv' := [(2, .long ((1 : Int64))), (0, .ref (G.2.1 135)), (1, .int (nI v))]) hx hb dX1_writeNumber_1 rfl hl (by decide) rfl (fun ls hl => ?_)
  refine lv_iload_n hx hb dX1_writeNumber_2 rfl (lv_at hl 2 rfl) ?_
  refine lv_bipush (v := 10) hx hb dX1_writeNumber_3 (by decide) ?_
  refine lv_idiv hx hb dX1_writeNumber_5 (by decide) ?_
  refine lv_istore (lv' := [(4, .int ((nI v) / 10)), (2, .long ((1 : Int64))), (0, .ref (G.2.1 135)), (1, .int (nI v))]) hx hb dX1_writeNumber_6 hl (by decide) rfl (fun ls hl => ?_)
  have lp8 : ∀ (d8 k : Nat), k + d8 = oDg v - 1 → ∀ x8_2 : Int64, x8_2 = (lN (10 ^ k)) → ∀ x8_4 : Int32, x8_4 = (nI (v / 10 ^ (k + 1))) → ∀ ls : Array Slot, lv_has ls 5 [(0, .ref (G.2.1 135)), (1, .int (nI v)), (2, .long (x8_2)), (4, .int x8_4)] → W p l e ({ frames := 1, cells := 0, slots := 0, locals := 21 } : Room) s m ([.ref (G.2.1 135), .int (nI v)] : List Value).toArray below meth c s.heap [] 0 0 (MQ below (oQ none (fun H9 => va_P G.1 vwCl (cw G (z3 α β (kNum γ v))) H9) (oA G)) ([.ref (G.2.1 135), .int (nI v)] : List Value).toArray s 0 0 (oA G)) (F0 m 8 ls []) := by
    intro d8
    induction d8 with
    | zero =>
      intro k hk8 x8_2 e8_2 x8_4 e8_4 ls hl
      subst e8_2
      subst e8_4
      have hk8 : k = oDg v - 1 := by omega
      have hle := (o_le0 (n := v / 10 ^ (k + 1)) rfl (Nat.lt_of_le_of_lt (Nat.div_le_self _ _) hv)).trans (oDg_le (k := k + 1) hv).symm
      refine lv_iload hx hb dX1_writeNumber_8 (lv_at hl 3 rfl) ?_
      refine lv_if_le (tgt := 29) hx hb dX1_writeNumber_10 (by decide) (fun c10 => ?_) (fun c10 => ?_)
      · have lp29 : ∀ (d29 j : Nat), j + d29 = oDg v - 1 + 1 → ∀ x29_2 : Int64, x29_2 = (lN (kPw (oDg v - 1) j)) → ∀ (τ29 : oZ), τ29 = (z3 α β (kWN γ v (oDg v - 1) j)) → ∀ (H : Heap) (locs : List Loc), va_P G.1 vwCl (cw G τ29) H → va_S (oA G) s.heap H locs → ∀ ls : Array Slot, lv_has ls 5 [(0, .ref (G.2.1 135)), (1, .int (nI v)), (2, .long (x29_2))] → W p l e ({ frames := 1, cells := 0, slots := 0, locals := 21 } : Room) s m ([.ref (G.2.1 135), .int (nI v)] : List Value).toArray below meth c H locs 0 0 (MQ below (oQ none (fun H9 => va_P G.1 vwCl (cw G (z3 α β (kNum γ v))) H9) (oA G)) ([.ref (G.2.1 135), .int (nI v)] : List Value).toArray s 0 0 (oA G)) (F0 m 29 ls []) := by
          intro d29
          induction d29 with
          | zero =>
            intro j hk29 x29_2 e29_2 τ29 eτ29 H locs hP hS ls hl
            subst e29_2
            subst eτ29
            have hz29_2 : pOK (kWN γ v (oDg v - 1) j) := kWN_ok hg v (oDg v - 1) j
            have hk29 : j = oDg v - 1 + 1 := by omega
            refine lv_lload_n hx hb dX1_writeNumber_29 rfl (lv_at hl 2 rfl) ?_
            refine lv_lconst (v := (0 : Int64)) hx hb dX1_writeNumber_30 (by decide) ?_
            refine o_lcmp_eq hx hb dX1_writeNumber_31 (by rw [hk29, kPw, if_neg (by omega)]; rfl) ?_
            refine lv_if_le (tgt := 61) hx hb dX1_writeNumber_32 (by decide) (fun c32 => ?_) (fun c32 => ?_)
            · exact o_vretM hx hb hr hlocks hS dX1_writeNumber_61 (by subst hk29; exact hP)
            · exact absurd (by decide) c32
          | succ d29 ih29 =>
            intro j hk29 x29_2 e29_2 τ29 eτ29 H locs hP hS ls hl
            subst e29_2
            subst eτ29
            have hz29_2 : pOK (kWN γ v (oDg v - 1) j) := kWN_ok hg v (oDg v - 1) j
            have hj29 : j < oDg v - 1 + 1 := by omega
            refine lv_lload_n hx hb dX1_writeNumber_29 rfl (lv_at hl 2 rfl) ?_
            refine lv_lconst (v := (0 : Int64)) hx hb dX1_writeNumber_30 (by decide) ?_
            refine o_lcmp_gt hx hb dX1_writeNumber_31 (kPw_gt (by omega) (by omega)) ?_
            refine lv_if_le (tgt := 61) hx hb dX1_writeNumber_32 (by decide) (fun c32 => ?_) (fun c32 => ?_)
            · exact absurd c32 (by decide)
            · refine lv_aload_n hx hb dX1_writeNumber_35 rfl (lv_at hl 0 rfl) ?_
              refine lv_ldc2 hx hb hown (hts (.constantLong RX1 37 (48)) (List.mem_of_getElem? (i := 2) rfl)) dX1_writeNumber_36 ?_
              refine lv_iload_n hx hb dX1_writeNumber_39 rfl (lv_at hl 1 rfl) ?_
              refine lv_i2l (v := (nI v).toInt64) hx hb dX1_writeNumber_40 rfl ?_
              refine lv_lload_n hx hb dX1_writeNumber_41 rfl (lv_at hl 2 rfl) ?_
              refine lv_ldiv hx hb dX1_writeNumber_42 (kPw_ne (by omega) (by omega)) ?_
              refine lv_ldc2 hx hb hown (hts (.constantLong RX1 35 (10)) (List.mem_of_getElem? (i := 1) rfl)) dX1_writeNumber_43 ?_
              refine lv_lrem hx hb dX1_writeNumber_46 (by decide) ?_
              refine lv_ladd hx hb dX1_writeNumber_47 ?_
              refine lv_l2i (v := ((48 : Int64) + ((((nI v).toInt64) / (lN (kPw (oDg v - 1) j))) - (((nI v).toInt64) / (lN (kPw (oDg v - 1) j))) / (10 : Int64) * (10 : Int64))).toInt32) hx hb dX1_writeNumber_48 rfl ?_
              refine o_cVmv (q0 := 135) (ci := 3) [.int (((48 : Int64) + ((((nI v).toInt64) / (lN (kPw (oDg v - 1) j))) - (((nI v).toInt64) / (lN (kPw (oDg v - 1) j))) / (10 : Int64) * (10 : Int64))).toInt32)] [] ⟨hx, hb, hml, hown, hts⟩ (m_X1_writeByte l G hI α β (kWN γ v (oDg v - 1) j) hz29_2 (((48 : Int64) + ((((nI v).toInt64) / (lN (kPw (oDg v - 1) j))) - (((nI v).toInt64) / (lN (kPw (oDg v - 1) j))) / (10 : Int64) * (10 : Int64))).toInt32)) (cwV 1 hts gX1_writeNumber_X1_writeByte rfl rfl rfl (by decide +kernel) ⟨Nat.le_of_ble_eq_true rfl, Nat.le_of_ble_eq_true rfl⟩) hK hN hP hS rfl rfl (cx_P G (z3 α β (kWN γ v (oDg v - 1) j))) rfl hl.1 rfl (Nat.le_of_ble_eq_true rfl) dX1_writeNumber_49 ⟨Nat.zero_le _, Nat.zero_le _⟩ (fun H locs hP hS => ?_)
              refine lv_lload_n hx hb dX1_writeNumber_52 rfl (lv_at hl 2 rfl) ?_
              refine lv_ldc2 hx hb hown (hts (.constantLong RX1 35 (10)) (List.mem_of_getElem? (i := 1) rfl)) dX1_writeNumber_53 ?_
              refine lv_ldiv hx hb dX1_writeNumber_56 (by decide) ?_
              refine lv_lstore_n (lv' := [(2, .long ((lN (kPw (oDg v - 1) j)) / (10 : Int64))), (0, .ref (G.2.1 135)), (1, .int (nI v))]) hx hb dX1_writeNumber_57 rfl hl (by decide) rfl (fun ls hl => ?_)
              refine lv_goto (tgt := 29) hx hb dX1_writeNumber_58 (by decide) ?_
              exact ih29 (j + 1) (by omega) _ (kPw_s (by omega) (by omega)) _ (by rw [kPw_b hv (kPw_lt (by omega))]; rfl) _ _ hP hS ls (lv_sub hl [1, 2, 0] rfl)
        exact lp29 (oDg v - 1 + 1) 0 (by omega) _ (by subst hk8; rw [kPw, if_pos (Nat.zero_le _), Nat.sub_zero]) _ (rfl) _ _ hP hS ls (lv_sub hl [0, 1, 2] rfl)
      · exact absurd (hle.mpr (by omega)) c10
    | succ d8 ih8 =>
      intro k hk8 x8_2 e8_2 x8_4 e8_4 ls hl
      subst e8_2
      subst e8_4
      have hj8 : k < oDg v - 1 := by omega
      have hle := (o_le0 (n := v / 10 ^ (k + 1)) rfl (Nat.lt_of_le_of_lt (Nat.div_le_self _ _) hv)).trans (oDg_le (k := k + 1) hv).symm
      refine lv_iload hx hb dX1_writeNumber_8 (lv_at hl 3 rfl) ?_
      refine lv_if_le (tgt := 29) hx hb dX1_writeNumber_10 (by decide) (fun c10 => ?_) (fun c10 => ?_)
      · exact absurd (hle.mp c10) (by omega)
      · refine lv_lload_n hx hb dX1_writeNumber_13 rfl (lv_at hl 2 rfl) ?_
        refine lv_ldc2 hx hb hown (hts (.constantLong RX1 35 (10)) (List.mem_of_getElem? (i := 1) rfl)) dX1_writeNumber_14 ?_
        refine lv_lmul hx hb dX1_writeNumber_17 ?_
        refine lv_lstore_n (lv' := [(2, .long ((lN (10 ^ k)) * (10 : Int64))), (0, .ref (G.2.1 135)), (1, .int (nI v)), (4, .int (nI (v / 10 ^ (k + 1))))]) hx hb dX1_writeNumber_18 rfl hl (by decide) rfl (fun ls hl => ?_)
        refine lv_iload hx hb dX1_writeNumber_19 (lv_at hl 3 rfl) ?_
        refine lv_bipush (v := 10) hx hb dX1_writeNumber_21 (by decide) ?_
        refine lv_idiv hx hb dX1_writeNumber_23 (by decide) ?_
        refine lv_istore (lv' := [(4, .int ((nI (v / 10 ^ (k + 1))) / 10)), (2, .long ((lN (10 ^ k)) * (10 : Int64))), (0, .ref (G.2.1 135)), (1, .int (nI v))]) hx hb dX1_writeNumber_24 hl (by decide) rfl (fun ls hl => ?_)
        refine lv_goto (tgt := 8) hx hb dX1_writeNumber_26 (by decide) ?_
        exact ih8 (k + 1) (by omega) _ (by rw [Nat.pow_succ, ← lN_mul]; rfl) _ (o_div10 rfl hv) ls (lv_sub hl [2, 3, 1, 0] rfl)
  exact lp8 (oDg v - 1) 0 (by omega) _ (rfl) _ (o_div10 (k := 0) (by rw [Nat.pow_zero, Nat.div_one]) hv) ls (lv_sub hl [2, 3, 1, 0] rfl)
set_option maxHeartbeats 4000000 in
set_option maxRecDepth 100000 in
theorem m_X1_writeLine (l : Launch) (G : oG) (hI : wl_I G.2.1 137) (α β γ : oT) (hg : pOK γ) (v1 : Nat) (av1 : Int32) (ev1 : av1 = nI v1) (hv1 : v1 < 2 ^ 31) (v2 : Nat) (av2 : Int32) (ev2 : av2 = nI v2) (hv2 : v2 < 2 ^ 31) (v3 : Nat) (av3 : Int32) (ev3 : av3 = nI v3) (hv3 : v3 < 2 ^ 31) : Met l yX1_writeLine wsX1_writeLine ({ frames := 2, cells := 0, slots := 0, locals := 45 } : Room) (va_Pc [.ref (G.2.1 135), .int av1, .int av2, .int av3] (PW G (cw G (z3 α β γ)))) (oQ none (fun H9 => va_P G.1 vwCl (cw G (z3 α β (kLine γ v1 v2 v3))) H9) (oA G)) 0 0 (oA G) := by
  subst ev1
  subst ev2
  subst ev3
  refine o_body (cc := cX1_writeLine) (by decide +kernel) rfl (Nat.le_of_ble_eq_true rfl) ?_
  intro p e s m below meth c ls hx hb hml hr hlocks hown hts hP hK hN hl
  have hown : s.vm.findClass RX1 = some m.cls := hown
  have hl : lv_has ls 4 [(0, .ref (G.2.1 135)), (1, .int (nI v1)), (2, .int (nI v2)), (3, .int (nI v3))] := hl
  have hS : va_S (oA G) s.heap s.heap [] := va_S.rf
  refine lv_aload_n hx hb dX1_writeLine_0 rfl (lv_at hl 0 rfl) ?_
  refine lv_iload_n hx hb dX1_writeLine_1 rfl (lv_at hl 1 rfl) ?_
  refine o_cVmv (q0 := 135) (ci := 3) [.int (nI v1)] [] ⟨hx, hb, hml, hown, hts⟩ (m_X1_writeNumber l G hI α β γ hg v1 (nI v1) (rfl) (by omega)) (cwV 1 hts gX1_writeLine_X1_writeNumber rfl rfl rfl (by decide +kernel) ⟨Nat.le_of_ble_eq_true rfl, Nat.le_of_ble_eq_true rfl⟩) hK hN hP hS rfl rfl (cx_P G (z3 α β γ)) rfl hl.1 rfl (Nat.le_of_ble_eq_true rfl) dX1_writeLine_2 ⟨Nat.zero_le _, Nat.zero_le _⟩ (fun H locs hP hS => ?_)
  have hz2_2 : pOK (kNum γ v1) := kNum_ok hg v1
  refine lv_aload_n hx hb dX1_writeLine_5 rfl (lv_at hl 0 rfl) ?_
  refine lv_bipush (v := 32) hx hb dX1_writeLine_6 (by decide) ?_
  refine o_cVmv (q0 := 135) (ci := 3) [.int 32] [] ⟨hx, hb, hml, hown, hts⟩ (m_X1_writeByte l G hI α β (kNum γ v1) hz2_2 32) (cwV 1 hts gX1_writeLine_X1_writeByte rfl rfl rfl (by decide +kernel) ⟨Nat.le_of_ble_eq_true rfl, Nat.le_of_ble_eq_true rfl⟩) hK hN hP hS rfl rfl (cx_P G (z3 α β (kNum γ v1))) rfl hl.1 rfl (Nat.le_of_ble_eq_true rfl) dX1_writeLine_8 ⟨Nat.zero_le _, Nat.zero_le _⟩ (fun H locs hP hS => ?_)
  have hz8_2 : pOK (pW (kNum γ v1) 32) := pW_ok hz2_2 _
  refine lv_aload_n hx hb dX1_writeLine_11 rfl (lv_at hl 0 rfl) ?_
  refine lv_iload_n hx hb dX1_writeLine_12 rfl (lv_at hl 2 rfl) ?_
  refine o_cVmv (q0 := 135) (ci := 3) [.int (nI v2)] [] ⟨hx, hb, hml, hown, hts⟩ (m_X1_writeNumber l G hI α β (pW (kNum γ v1) 32) hz8_2 v2 (nI v2) (rfl) (by omega)) (cwV 1 hts gX1_writeLine_X1_writeNumber rfl rfl rfl (by decide +kernel) ⟨Nat.le_of_ble_eq_true rfl, Nat.le_of_ble_eq_true rfl⟩) hK hN hP hS rfl rfl (cx_P G (z3 α β (pW (kNum γ v1) 32))) rfl hl.1 rfl (Nat.le_of_ble_eq_true rfl) dX1_writeLine_13 ⟨Nat.zero_le _, Nat.zero_le _⟩ (fun H locs hP hS => ?_)
  have hz13_2 : pOK (kNum (pW (kNum γ v1) 32) v2) := kNum_ok hz8_2 v2
  refine lv_aload_n hx hb dX1_writeLine_16 rfl (lv_at hl 0 rfl) ?_
  refine lv_bipush (v := 32) hx hb dX1_writeLine_17 (by decide) ?_
  refine o_cVmv (q0 := 135) (ci := 3) [.int 32] [] ⟨hx, hb, hml, hown, hts⟩ (m_X1_writeByte l G hI α β (kNum (pW (kNum γ v1) 32) v2) hz13_2 32) (cwV 1 hts gX1_writeLine_X1_writeByte rfl rfl rfl (by decide +kernel) ⟨Nat.le_of_ble_eq_true rfl, Nat.le_of_ble_eq_true rfl⟩) hK hN hP hS rfl rfl (cx_P G (z3 α β (kNum (pW (kNum γ v1) 32) v2))) rfl hl.1 rfl (Nat.le_of_ble_eq_true rfl) dX1_writeLine_19 ⟨Nat.zero_le _, Nat.zero_le _⟩ (fun H locs hP hS => ?_)
  have hz19_2 : pOK (pW (kNum (pW (kNum γ v1) 32) v2) 32) := pW_ok hz13_2 _
  refine lv_aload_n hx hb dX1_writeLine_22 rfl (lv_at hl 0 rfl) ?_
  refine lv_iload_n hx hb dX1_writeLine_23 rfl (lv_at hl 3 rfl) ?_
  refine o_cVmv (q0 := 135) (ci := 3) [.int (nI v3)] [] ⟨hx, hb, hml, hown, hts⟩ (m_X1_writeNumber l G hI α β (pW (kNum (pW (kNum γ v1) 32) v2) 32) hz19_2 v3 (nI v3) (rfl) (by omega)) (cwV 1 hts gX1_writeLine_X1_writeNumber rfl rfl rfl (by decide +kernel) ⟨Nat.le_of_ble_eq_true rfl, Nat.le_of_ble_eq_true rfl⟩) hK hN hP hS rfl rfl (cx_P G (z3 α β (pW (kNum (pW (kNum γ v1) 32) v2) 32))) rfl hl.1 rfl (Nat.le_of_ble_eq_true rfl) dX1_writeLine_24 ⟨Nat.zero_le _, Nat.zero_le _⟩ (fun H locs hP hS => ?_)
  have hz24_2 : pOK (kNum (pW (kNum (pW (kNum γ v1) 32) v2) 32) v3) := kNum_ok hz19_2 v3
  refine lv_aload_n hx hb dX1_writeLine_27 rfl (lv_at hl 0 rfl) ?_
  refine lv_bipush (v := 10) hx hb dX1_writeLine_28 (by decide) ?_
  refine o_cVmv (q0 := 135) (ci := 3) [.int 10] [] ⟨hx, hb, hml, hown, hts⟩ (m_X1_writeByte l G hI α β (kNum (pW (kNum (pW (kNum γ v1) 32) v2) 32) v3) hz24_2 10) (cwV 1 hts gX1_writeLine_X1_writeByte rfl rfl rfl (by decide +kernel) ⟨Nat.le_of_ble_eq_true rfl, Nat.le_of_ble_eq_true rfl⟩) hK hN hP hS rfl rfl (cx_P G (z3 α β (kNum (pW (kNum (pW (kNum γ v1) 32) v2) 32) v3))) rfl hl.1 rfl (Nat.le_of_ble_eq_true rfl) dX1_writeLine_30 ⟨Nat.zero_le _, Nat.zero_le _⟩ (fun H locs hP hS => ?_)
  exact o_vretM hx hb hr hlocks hS dX1_writeLine_33 (hP)
