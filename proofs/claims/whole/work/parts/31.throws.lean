set_option maxHeartbeats 4000000 in
set_option maxRecDepth 100000 in
theorem mx_X4_checkIndex_i (l : Launch) (hst : l.stackTraces = false) (G : oG) (α β γ : oT) (x : Int32) (n : Nat) (an : Int32) (en : an = nI n) (hi : oIn x n = false) : vx_Met l yX4_checkIndex wsX4_checkIndex ({ frames := 6, cells := 1, slots := 6, locals := 82 } : Room) (va_Pc [.int x, .int an] (PX G (cw G (z3 α β γ)))) oNo (oXC "java/lang/IndexOutOfBoundsException") 1 6 (fun _ => False) := by
  subst en
  refine ox_body (cc := cX4_checkIndex) (by decide +kernel) rfl (Nat.le_of_ble_eq_true rfl) ?_
  intro p e s m below meth c ls hx hb hml ht hlocks hown hts hP hK hN hE hl
  have hown : s.vm.findClass RX4 = some m.cls := hown
  have hl : lv_has ls 2 [(0, .int x), (1, .int (nI n))] := hl
  refine lv_iload_n hx hb dX4_checkIndex_0 rfl (lv_at hl 0 rfl) ?_
  refine lv_if_lt (tgt := 9) hx hb dX4_checkIndex_1 (by decide) (fun c1 => ?_) (fun c1 => ?_)
  · obtain ⟨sa, hsa⟩ := hE.2.2.1 (195, "no such number") (by decide)
    exact vx_throwS (own := RX4) (cls := "java/lang/IndexOutOfBoundsException") (text := "no such number") (names := ["java/lang/RuntimeException", "java/lang/Exception"]) (A := fun _ => False) hx hb hst hown (by decide +kernel) (by decide +kernel) (hts (.classLink RX4 193 "java/lang/IndexOutOfBoundsException") (List.mem_of_getElem? (i := 1) rfl)) (hts (.initialized "java/lang/IndexOutOfBoundsException") (List.mem_of_getElem? (i := 2) rfl)) hsa (vx_hat (fun w9 h9 => hts w9 (List.mem_cons_of_mem _ (List.mem_append_right _ (h9)))) (by decide +kernel) hE.use) (by decide +kernel) hE.1 hE.2.1 va_S.rf (hl.1.trans hml.symm) dX4_checkIndex_9 dX4_checkIndex_12 dX4_checkIndex_13 dX4_checkIndex_15 dX4_checkIndex_18 (fun x9 h9 => (ht x9 h9).elim) (by decide) (by decide) (by decide) (by decide) hlocks (fun t9 _ h1 h2 => ⟨(), trivial, rfl, h1, fun q hq _ => h2 q hq⟩) (fun z9 h9 => nomatch h9) (by decide) (by decide)
  · refine lv_iload_n hx hb dX4_checkIndex_4 rfl (lv_at hl 0 rfl) ?_
    refine lv_iload_n hx hb dX4_checkIndex_5 rfl (lv_at hl 1 rfl) ?_
    refine lv_icmp_lt (tgt := 19) hx hb dX4_checkIndex_6 (by decide) (fun c6 => ?_) (fun c6 => ?_)
    · exact (oIn_no hi c1 c6).elim
    · obtain ⟨sa, hsa⟩ := hE.2.2.1 (195, "no such number") (by decide)
      exact vx_throwS (own := RX4) (cls := "java/lang/IndexOutOfBoundsException") (text := "no such number") (names := ["java/lang/RuntimeException", "java/lang/Exception"]) (A := fun _ => False) hx hb hst hown (by decide +kernel) (by decide +kernel) (hts (.classLink RX4 193 "java/lang/IndexOutOfBoundsException") (List.mem_of_getElem? (i := 1) rfl)) (hts (.initialized "java/lang/IndexOutOfBoundsException") (List.mem_of_getElem? (i := 2) rfl)) hsa (vx_hat (fun w9 h9 => hts w9 (List.mem_cons_of_mem _ (List.mem_append_right _ (h9)))) (by decide +kernel) hE.use) (by decide +kernel) hE.1 hE.2.1 va_S.rf (hl.1.trans hml.symm) dX4_checkIndex_9 dX4_checkIndex_12 dX4_checkIndex_13 dX4_checkIndex_15 dX4_checkIndex_18 (fun x9 h9 => (ht x9 h9).elim) (by decide) (by decide) (by decide) (by decide) hlocks (fun t9 _ h1 h2 => ⟨(), trivial, rfl, h1, fun q hq _ => h2 q hq⟩) (fun z9 h9 => nomatch h9) (by decide) (by decide)
set_option maxHeartbeats 4000000 in
set_option maxRecDepth 100000 in
theorem mx_X4_checkRange_r (l : Launch) (hst : l.stackTraces = false) (G : oG) (α β γ : oT) (x : Int32) (y : Int32) (z : Int32) (hi : oRg x y z = false) : vx_Met l yX4_checkRange wsX4_checkRange ({ frames := 6, cells := 1, slots := 6, locals := 82 } : Room) (va_Pc [.int x, .int y, .int z] (PX G (cw G (z3 α β γ)))) oNo (oXC "java/lang/IllegalArgumentException") 1 6 (fun _ => False) := by
  refine ox_body (cc := cX4_checkRange) (by decide +kernel) rfl (Nat.le_of_ble_eq_true rfl) ?_
  intro p e s m below meth c ls hx hb hml ht hlocks hown hts hP hK hN hE hl
  have hown : s.vm.findClass RX4 = some m.cls := hown
  have hl : lv_has ls 3 [(0, .int x), (1, .int y), (2, .int z)] := hl
  refine lv_iload_n hx hb dX4_checkRange_0 rfl (lv_at hl 0 rfl) ?_
  refine lv_iload_n hx hb dX4_checkRange_1 rfl (lv_at hl 1 rfl) ?_
  refine lv_icmp_lt (tgt := 10) hx hb dX4_checkRange_2 (by decide) (fun c2 => ?_) (fun c2 => ?_)
  · obtain ⟨sa, hsa⟩ := hE.2.2.1 (198, "out of its range") (by decide)
    exact vx_throwS (own := RX4) (cls := "java/lang/IllegalArgumentException") (text := "out of its range") (names := ["java/lang/RuntimeException", "java/lang/Exception"]) (A := fun _ => False) hx hb hst hown (by decide +kernel) (by decide +kernel) (hts (.classLink RX4 92 "java/lang/IllegalArgumentException") (List.mem_of_getElem? (i := 1) rfl)) (hts (.initialized "java/lang/IllegalArgumentException") (List.mem_of_getElem? (i := 2) rfl)) hsa (vx_hat (fun w9 h9 => hts w9 (List.mem_cons_of_mem _ (List.mem_append_right _ (h9)))) (by decide +kernel) hE.use) (by decide +kernel) hE.1 hE.2.1 va_S.rf (hl.1.trans hml.symm) dX4_checkRange_10 dX4_checkRange_13 dX4_checkRange_14 dX4_checkRange_16 dX4_checkRange_19 (fun x9 h9 => (ht x9 h9).elim) (by decide) (by decide) (by decide) (by decide) hlocks (fun t9 _ h1 h2 => ⟨(), trivial, rfl, h1, fun q hq _ => h2 q hq⟩) (fun z9 h9 => nomatch h9) (by decide) (by decide)
  · refine lv_iload_n hx hb dX4_checkRange_5 rfl (lv_at hl 0 rfl) ?_
    refine lv_iload_n hx hb dX4_checkRange_6 rfl (lv_at hl 2 rfl) ?_
    refine lv_icmp_le (tgt := 20) hx hb dX4_checkRange_7 (by decide) (fun c7 => ?_) (fun c7 => ?_)
    · exact (oRg_no hi c2 c7).elim
    · obtain ⟨sa, hsa⟩ := hE.2.2.1 (198, "out of its range") (by decide)
      exact vx_throwS (own := RX4) (cls := "java/lang/IllegalArgumentException") (text := "out of its range") (names := ["java/lang/RuntimeException", "java/lang/Exception"]) (A := fun _ => False) hx hb hst hown (by decide +kernel) (by decide +kernel) (hts (.classLink RX4 92 "java/lang/IllegalArgumentException") (List.mem_of_getElem? (i := 1) rfl)) (hts (.initialized "java/lang/IllegalArgumentException") (List.mem_of_getElem? (i := 2) rfl)) hsa (vx_hat (fun w9 h9 => hts w9 (List.mem_cons_of_mem _ (List.mem_append_right _ (h9)))) (by decide +kernel) hE.use) (by decide +kernel) hE.1 hE.2.1 va_S.rf (hl.1.trans hml.symm) dX4_checkRange_10 dX4_checkRange_13 dX4_checkRange_14 dX4_checkRange_16 dX4_checkRange_19 (fun x9 h9 => (ht x9 h9).elim) (by decide) (by decide) (by decide) (by decide) hlocks (fun t9 _ h1 h2 => ⟨(), trivial, rfl, h1, fun q hq _ => h2 q hq⟩) (fun z9 h9 => nomatch h9) (by decide) (by decide)
set_option maxHeartbeats 4000000 in
set_option maxRecDepth 100000 in
theorem mx_X4_checkStreet_i (l : Launch) (hst : l.stackTraces = false) (G : oG) (α β γ : oT) (nS : Nat) (nO : Nat) (nH : Nat) (hz : oOK α nS nO nH) (x : Int32) (hi : oIn x nS = false) : vx_Met l yX4_checkStreet wsX4_checkStreet ({ frames := 7, cells := 1, slots := 6, locals := 103 } : Room) (va_Pc [.ref (G.2.1 0), .int x] (PX G (cw G (z3 α β γ)))) oNo (oXC "java/lang/IndexOutOfBoundsException") 1 6 (fun _ => False) := by
  refine ox_body (cc := cX4_checkStreet) (by decide +kernel) rfl (Nat.le_of_ble_eq_true rfl) ?_
  intro p e s m below meth c ls hx hb hml ht hlocks hown hts hP hK hN hE hl
  have hown : s.vm.findClass RX4 = some m.cls := hown
  have hl : lv_has ls 2 [(0, .ref (G.2.1 0)), (1, .int x)] := hl
  obtain ⟨hz1, hz2, hz3, hz4, hz5, hz6, hz7⟩ := id hz
  refine lv_iload_n hx hb dX4_checkStreet_0 rfl (lv_at hl 1 rfl) ?_
  refine lv_aload_n hx hb dX4_checkStreet_1 rfl (lv_at hl 0 rfl) ?_
  refine va_get (D := G.1) (ci := 6) (v := .ref (ta G 0 (0))) (C := RX4) (T := TX4) (N := 3) hx hb hts (fun w9 h9 => List.mem_cons_of_mem _ (List.mem_append_left _ (List.mem_append_left _ (List.mem_append_right _ (h9))))) hown hK hP (0) (cx_C G (z3 α β γ)) rfl 0 (by decide) (hts (.fieldLink RX4 10 "OrganCensus" "town" "LOrganCensus$Town;") (List.mem_of_getElem? (i := 1) rfl)) (fun _ h9 => h9) rfl dX4_checkStreet_2 ?_
  refine va_get (D := G.1) (ci := 5) (v := .int (α 18 0 0)) (C := RX3) (T := TX3) (N := 5) hx hb hts (fun w9 h9 => List.mem_cons_of_mem _ (List.mem_append_left _ (List.mem_append_right _ (h9)))) hown hK hP (1 + 67 * 0 + (0)) (cx_T G (z3 α β γ) (show 0 < 2 by decide)) rfl 2 (by decide) (hts (.fieldLink RX4 30 "OrganCensus$Town" "streetCount" "I") (List.mem_of_getElem? (i := 2) rfl)) (fun _ h9 => h9) rfl dX4_checkStreet_5 ?_
  exact ox_cS [.int x, .int (α 18 0 0)] [] ⟨hx, hb, hml, hown, hts⟩ (mx_X4_checkIndex_i l hst G α β γ x nS (α 18 0 0) (hz.1) (hi)) (va_cwS 2 hts gX4_checkStreet_X4_checkIndex rfl rfl rfl (by decide +kernel) ⟨Nat.le_of_ble_eq_true rfl, Nat.le_of_ble_eq_true rfl⟩) hK hN hP hE rfl hl.1 rfl (Nat.le_of_ble_eq_true rfl) dX4_checkStreet_8 ⟨Nat.le_of_ble_eq_true rfl, Nat.le_of_ble_eq_true rfl⟩ ht hlocks
set_option maxHeartbeats 4000000 in
set_option maxRecDepth 100000 in
theorem mx_X4_checkOrgan_i (l : Launch) (hst : l.stackTraces = false) (G : oG) (α β γ : oT) (nS : Nat) (nO : Nat) (nH : Nat) (hz : oOK α nS nO nH) (x : Int32) (hi : oIn x nO = false) : vx_Met l yX4_checkOrgan wsX4_checkOrgan ({ frames := 7, cells := 1, slots := 6, locals := 103 } : Room) (va_Pc [.ref (G.2.1 0), .int x] (PX G (cw G (z3 α β γ)))) oNo (oXC "java/lang/IndexOutOfBoundsException") 1 6 (fun _ => False) := by
  refine ox_body (cc := cX4_checkOrgan) (by decide +kernel) rfl (Nat.le_of_ble_eq_true rfl) ?_
  intro p e s m below meth c ls hx hb hml ht hlocks hown hts hP hK hN hE hl
  have hown : s.vm.findClass RX4 = some m.cls := hown
  have hl : lv_has ls 2 [(0, .ref (G.2.1 0)), (1, .int x)] := hl
  obtain ⟨hz1, hz2, hz3, hz4, hz5, hz6, hz7⟩ := id hz
  refine lv_iload_n hx hb dX4_checkOrgan_0 rfl (lv_at hl 1 rfl) ?_
  refine lv_aload_n hx hb dX4_checkOrgan_1 rfl (lv_at hl 0 rfl) ?_
  refine va_get (D := G.1) (ci := 6) (v := .ref (ta G 0 (0))) (C := RX4) (T := TX4) (N := 3) hx hb hts (fun w9 h9 => List.mem_cons_of_mem _ (List.mem_append_left _ (List.mem_append_left _ (List.mem_append_right _ (h9))))) hown hK hP (0) (cx_C G (z3 α β γ)) rfl 0 (by decide) (hts (.fieldLink RX4 10 "OrganCensus" "town" "LOrganCensus$Town;") (List.mem_of_getElem? (i := 1) rfl)) (fun _ h9 => h9) rfl dX4_checkOrgan_2 ?_
  refine va_get (D := G.1) (ci := 5) (v := .int (α 18 0 1)) (C := RX3) (T := TX3) (N := 5) hx hb hts (fun w9 h9 => List.mem_cons_of_mem _ (List.mem_append_left _ (List.mem_append_right _ (h9)))) hown hK hP (1 + 67 * 0 + (0)) (cx_T G (z3 α β γ) (show 0 < 2 by decide)) rfl 3 (by decide) (hts (.fieldLink RX4 76 "OrganCensus$Town" "organCount" "I") (List.mem_of_getElem? (i := 2) rfl)) (fun _ h9 => h9) rfl dX4_checkOrgan_5 ?_
  exact ox_cS [.int x, .int (α 18 0 1)] [] ⟨hx, hb, hml, hown, hts⟩ (mx_X4_checkIndex_i l hst G α β γ x nO (α 18 0 1) (hz.2.2.1) (hi)) (va_cwS 2 hts gX4_checkOrgan_X4_checkIndex rfl rfl rfl (by decide +kernel) ⟨Nat.le_of_ble_eq_true rfl, Nat.le_of_ble_eq_true rfl⟩) hK hN hP hE rfl hl.1 rfl (Nat.le_of_ble_eq_true rfl) dX4_checkOrgan_8 ⟨Nat.le_of_ble_eq_true rfl, Nat.le_of_ble_eq_true rfl⟩ ht hlocks
set_option maxHeartbeats 4000000 in
set_option maxRecDepth 100000 in
theorem mx_X4_checkPitch_a (l : Launch) (hst : l.stackTraces = false) (G : oG) (α β γ : oT) (nS : Nat) (nO : Nat) (nH : Nat) (hz : oOK α nS nO nH) (x : Int32) (y : Int32) (hi : oIn x nS = false) : vx_Met l yX4_checkPitch wsX4_checkPitch ({ frames := 8, cells := 1, slots := 6, locals := 124 } : Room) (va_Pc [.ref (G.2.1 0), .int x, .int y] (PX G (cw G (z3 α β γ)))) oNo (oXC "java/lang/IndexOutOfBoundsException") 1 6 (fun _ => False) := by
  refine ox_body (cc := cX4_checkPitch) (by decide +kernel) rfl (Nat.le_of_ble_eq_true rfl) ?_
  intro p e s m below meth c ls hx hb hml ht hlocks hown hts hP hK hN hE hl
  have hown : s.vm.findClass RX4 = some m.cls := hown
  have hl : lv_has ls 3 [(0, .ref (G.2.1 0)), (1, .int x), (2, .int y)] := hl
  obtain ⟨hz1, hz2, hz3, hz4, hz5, hz6, hz7⟩ := id hz
  refine lv_aload_n hx hb dX4_checkPitch_0 rfl (lv_at hl 0 rfl) ?_
  refine lv_iload_n hx hb dX4_checkPitch_1 rfl (lv_at hl 1 rfl) ?_
  exact ox_cV (q0 := 0) (ci := 6) [.int x] [] ⟨hx, hb, hml, hown, hts⟩ (mx_X4_checkStreet_i l hst G α β γ nS nO nH hz x (hi)) (cwV 1 hts gX4_checkPitch_X4_checkStreet rfl rfl rfl (by decide +kernel) ⟨Nat.le_of_ble_eq_true rfl, Nat.le_of_ble_eq_true rfl⟩) hK hN hP hE rfl rfl (cx_C G (z3 α β γ)) rfl hl.1 rfl (Nat.le_of_ble_eq_true rfl) dX4_checkPitch_2 ⟨Nat.le_of_ble_eq_true rfl, Nat.le_of_ble_eq_true rfl⟩ ht hlocks
set_option maxHeartbeats 4000000 in
set_option maxRecDepth 100000 in
theorem mx_X4_checkPitch_b (l : Launch) (hst : l.stackTraces = false) (G : oG) (α β γ : oT) (nS : Nat) (nO : Nat) (nH : Nat) (hz : oOK α nS nO nH) (x : Int32) (y : Int32) (hi : oIn x nS = true) (hj : oIn y (oNp α (oN x)) = false) : vx_Met l yX4_checkPitch wsX4_checkPitch ({ frames := 7, cells := 1, slots := 6, locals := 103 } : Room) (va_Pc [.ref (G.2.1 0), .int x, .int y] (PX G (cw G (z3 α β γ)))) oNo (oXC "java/lang/IndexOutOfBoundsException") 1 6 (fun _ => False) := by
  refine ox_body (cc := cX4_checkPitch) (by decide +kernel) rfl (Nat.le_of_ble_eq_true rfl) ?_
  intro p e s m below meth c ls hx hb hml ht hlocks hown hts hP hK hN hE hl
  have hown : s.vm.findClass RX4 = some m.cls := hown
  have hl : lv_has ls 3 [(0, .ref (G.2.1 0)), (1, .int x), (2, .int y)] := hl
  obtain ⟨hz1, hz2, hz3, hz4, hz5, hz6, hz7⟩ := id hz
  have n1 := oIn_lt (by omega) hi
  have hp1 := (hz7 (oN x) (by omega)).2
  refine lv_aload_n hx hb dX4_checkPitch_0 rfl (lv_at hl 0 rfl) ?_
  refine lv_iload_n hx hb dX4_checkPitch_1 rfl (lv_at hl 1 rfl) ?_
  refine o_cVv (q0 := 0) (ci := 6) [.int x] [] ⟨hx, hb, hml, hown, hts⟩ (m_X4_checkStreet l G α β γ nS nO nH hz x (hi)) (cwV 1 hts gX4_checkPitch_X4_checkStreet rfl rfl rfl (by decide +kernel) ⟨Nat.le_of_ble_eq_true rfl, Nat.le_of_ble_eq_true rfl⟩) hK hN hP rfl rfl (cx_C G (z3 α β γ)) rfl hl.1 rfl (Nat.le_of_ble_eq_true rfl) dX4_checkPitch_2 ⟨Nat.zero_le _, Nat.zero_le _⟩ ?_
  refine lv_iload_n hx hb dX4_checkPitch_5 rfl (lv_at hl 2 rfl) ?_
  refine lv_aload_n hx hb dX4_checkPitch_6 rfl (lv_at hl 0 rfl) ?_
  refine va_get (D := G.1) (ci := 6) (v := .ref (ta G 0 (0))) (C := RX4) (T := TX4) (N := 3) hx hb hts (fun w9 h9 => List.mem_cons_of_mem _ (List.mem_append_left _ (List.mem_append_left _ (List.mem_append_left _ (List.mem_append_right _ (h9)))))) hown hK hP (0) (cx_C G (z3 α β γ)) rfl 0 (by decide) (hts (.fieldLink RX4 10 "OrganCensus" "town" "LOrganCensus$Town;") (List.mem_of_getElem? (i := 1) rfl)) (fun _ h9 => h9) rfl dX4_checkPitch_7 ?_
  refine va_get (D := G.1) (ci := 5) (v := .ref (ta G 0 (1))) (C := RX3) (T := TX3) (N := 5) hx hb hts (fun w9 h9 => List.mem_cons_of_mem _ (List.mem_append_left _ (List.mem_append_left _ (List.mem_append_right _ (h9))))) hown hK hP (1 + 67 * 0 + (0)) (cx_T G (z3 α β γ) (show 0 < 2 by decide)) rfl 0 (by decide) (hts (.fieldLink RX4 53 "OrganCensus$Town" "streets" "[LOrganCensus$Street;") (List.mem_of_getElem? (i := 2) rfl)) (fun _ h9 => h9) rfl dX4_checkPitch_10 ?_
  refine lv_iload_n hx hb dX4_checkPitch_13 rfl (lv_at hl 1 rfl) ?_
  refine o_aald (k := oN x) (C := RX2) hx hb hK hP (1 + 67 * 0 + (1)) 1 (cx_SA G (z3 α β γ) (show 0 < 2 by decide)) rfl (oIn_x hi) (by omega) (by decide) rfl dX4_checkPitch_14 ?_
  refine va_get (D := G.1) (ci := 4) (v := .int (α 3 (oN x) 0)) (C := RX2) (T := TX2) (N := 6) hx hb hts (fun w9 h9 => List.mem_cons_of_mem _ (List.mem_append_left _ (List.mem_append_right _ (h9)))) hown hK hP (1 + 67 * 0 + (3 + 4 * (oN x))) (cx_S G (z3 α β γ) (show 0 < 2 by decide) (by omega)) rfl 3 (by decide) (hts (.fieldLink RX4 143 "OrganCensus$Street" "pitches" "I") (List.mem_of_getElem? (i := 3) rfl)) (fun _ h9 => h9) rfl dX4_checkPitch_15 ?_
  exact ox_cS [.int y, .int (α 3 (oN x) 0)] [] ⟨hx, hb, hml, hown, hts⟩ (mx_X4_checkIndex_i l hst G α β γ y (oNp α (oN x)) (α 3 (oN x) 0) ((hz.2.2.2.2.2.2 (oN x) (by omega)).1) (hj)) (va_cwS 2 hts gX4_checkPitch_X4_checkIndex rfl rfl rfl (by decide +kernel) ⟨Nat.le_of_ble_eq_true rfl, Nat.le_of_ble_eq_true rfl⟩) hK hN hP hE rfl hl.1 rfl (Nat.le_of_ble_eq_true rfl) dX4_checkPitch_18 ⟨Nat.le_of_ble_eq_true rfl, Nat.le_of_ble_eq_true rfl⟩ ht hlocks
set_option maxHeartbeats 4000000 in
set_option maxRecDepth 100000 in
theorem mx_X4_build_r (l : Launch) (hst : l.stackTraces = false) (G : oG) (α β γ : oT) (nS : Nat) (nO : Nat) (nH : Nat) (hz : oOK α nS nO nH) (x : Int32) (h1 : oRg x 3 20 = false) : vx_Met l yX4_build wsX4_build ({ frames := 7, cells := 1, slots := 6, locals := 104 } : Room) (va_Pc [.ref (G.2.1 0), .int x] (PX G (cw G (z3 α β γ)))) oNo (oXC "java/lang/IllegalArgumentException") 1 6 (fun _ => False) := by
  refine ox_body (cc := cX4_build) (by decide +kernel) rfl (Nat.le_of_ble_eq_true rfl) ?_
  intro p e s m below meth c ls hx hb hml ht hlocks hown hts hP hK hN hE hl
  have hown : s.vm.findClass RX4 = some m.cls := hown
  have hl : lv_has ls 2 [(0, .ref (G.2.1 0)), (1, .int x)] := hl
  obtain ⟨hz1, hz2, hz3, hz4, hz5, hz6, hz7⟩ := id hz
  refine lv_iload_n hx hb dX4_build_0 rfl (lv_at hl 1 rfl) ?_
  refine lv_iconst (v := 3) hx hb dX4_build_1 (by decide) ?_
  refine lv_bipush (v := 20) hx hb dX4_build_2 (by decide) ?_
  exact ox_cS [.int x, .int 3, .int 20] [] ⟨hx, hb, hml, hown, hts⟩ (mx_X4_checkRange_r l hst G α β γ x 3 20 (h1)) (va_cwS 3 hts gX4_build_X4_checkRange rfl rfl rfl (by decide +kernel) ⟨Nat.le_of_ble_eq_true rfl, Nat.le_of_ble_eq_true rfl⟩) hK hN hP hE rfl hl.1 rfl (Nat.le_of_ble_eq_true rfl) dX4_build_4 ⟨Nat.le_of_ble_eq_true rfl, Nat.le_of_ble_eq_true rfl⟩ ht hlocks
set_option maxHeartbeats 4000000 in
set_option maxRecDepth 100000 in
theorem mx_X4_build_f (l : Launch) (hst : l.stackTraces = false) (G : oG) (α β γ : oT) (nS : Nat) (nO : Nat) (nH : Nat) (hz : oOK α nS nO nH) (x : Int32) (h1 : oRg x 3 20 = true) (h2 : nS = 6) : vx_Met l yX4_build wsX4_build ({ frames := 6, cells := 1, slots := 6, locals := 82 } : Room) (va_Pc [.ref (G.2.1 0), .int x] (PX G (cw G (z3 α β γ)))) oNo (oXC "java/lang/IllegalStateException") 1 6 (fun _ => False) := by
  refine ox_body (cc := cX4_build) (by decide +kernel) rfl (Nat.le_of_ble_eq_true rfl) ?_
  intro p e s m below meth c ls hx hb hml ht hlocks hown hts hP hK hN hE hl
  have hown : s.vm.findClass RX4 = some m.cls := hown
  have hl : lv_has ls 2 [(0, .ref (G.2.1 0)), (1, .int x)] := hl
  obtain ⟨hz1, hz2, hz3, hz4, hz5, hz6, hz7⟩ := id hz
  refine lv_iload_n hx hb dX4_build_0 rfl (lv_at hl 1 rfl) ?_
  refine lv_iconst (v := 3) hx hb dX4_build_1 (by decide) ?_
  refine lv_bipush (v := 20) hx hb dX4_build_2 (by decide) ?_
  refine o_cSv [.int x, .int 3, .int 20] [] ⟨hx, hb, hml, hown, hts⟩ (m_X4_checkRange l G α β γ x 3 20 (h1)) (va_cwS 3 hts gX4_build_X4_checkRange rfl rfl rfl (by decide +kernel) ⟨Nat.le_of_ble_eq_true rfl, Nat.le_of_ble_eq_true rfl⟩) hK hN hP rfl hl.1 rfl (Nat.le_of_ble_eq_true rfl) dX4_build_4 ⟨Nat.zero_le _, Nat.zero_le _⟩ ?_
  refine lv_aload_n hx hb dX4_build_7 rfl (lv_at hl 0 rfl) ?_
  refine va_get (D := G.1) (ci := 6) (v := .ref (ta G 0 (0))) (C := RX4) (T := TX4) (N := 3) hx hb hts (fun w9 h9 => List.mem_cons_of_mem _ (List.mem_append_left _ (List.mem_append_left _ (List.mem_append_left _ (List.mem_append_left _ (List.mem_append_right _ (h9))))))) hown hK hP (0) (cx_C G (z3 α β γ)) rfl 0 (by decide) (hts (.fieldLink RX4 10 "OrganCensus" "town" "LOrganCensus$Town;") (List.mem_of_getElem? (i := 3) rfl)) (fun _ h9 => h9) rfl dX4_build_8 ?_
  refine va_get (D := G.1) (ci := 5) (v := .int (α 18 0 0)) (C := RX3) (T := TX3) (N := 5) hx hb hts (fun w9 h9 => List.mem_cons_of_mem _ (List.mem_append_left _ (List.mem_append_left _ (List.mem_append_left _ (List.mem_append_right _ (h9)))))) hown hK hP (1 + 67 * 0 + (0)) (cx_T G (z3 α β γ) (show 0 < 2 by decide)) rfl 2 (by decide) (hts (.fieldLink RX4 30 "OrganCensus$Town" "streetCount" "I") (List.mem_of_getElem? (i := 4) rfl)) (fun _ h9 => h9) rfl dX4_build_11 ?_
  refine lv_bipush (v := 6) hx hb dX4_build_14 (by decide) ?_
  refine lv_icmp_lt (tgt := 29) hx hb dX4_build_16 (by decide) (fun c16 => ?_) (fun c16 => ?_)
  · have n16 := (o_nlt (a := nS) (b := 6) hz.1 (by decide) (by omega) (by omega)).mp c16; omega
  · have n16 := (mt (o_nlt (a := nS) (b := 6) hz.1 (by decide) (by omega) (by omega)).mpr) c16
    obtain ⟨sa, hsa⟩ := hE.2.2.1 (36, "no more streets") (by decide)
    exact vx_throwS (own := RX4) (cls := "java/lang/IllegalStateException") (text := "no more streets") (names := ["java/lang/RuntimeException", "java/lang/Exception"]) (A := fun _ => False) hx hb hst hown (by decide +kernel) (by decide +kernel) (hts (.classLink RX4 34 "java/lang/IllegalStateException") (List.mem_of_getElem? (i := 1) rfl)) (hts (.initialized "java/lang/IllegalStateException") (List.mem_of_getElem? (i := 2) rfl)) hsa (vx_hat (fun w9 h9 => hts w9 (List.mem_cons_of_mem _ (List.mem_append_left _ (List.mem_append_right _ (h9))))) (by decide +kernel) hE.use) (by decide +kernel) hE.1 hE.2.1 va_S.rf (hl.1.trans hml.symm) dX4_build_19 dX4_build_22 dX4_build_23 dX4_build_25 dX4_build_28 (fun x9 h9 => (ht x9 h9).elim) (by decide) (by decide) (by decide) (by decide) hlocks (fun t9 _ h1 h2 => ⟨(), trivial, rfl, h1, fun q hq _ => h2 q hq⟩) (fun z9 h9 => nomatch h9) (by decide) (by decide)
set_option maxHeartbeats 4000000 in
set_option maxRecDepth 100000 in
theorem mx_X4_setPassers_s (l : Launch) (hst : l.stackTraces = false) (G : oG) (α β γ : oT) (nS : Nat) (nO : Nat) (nH : Nat) (hz : oOK α nS nO nH) (x : Int32) (y : Int32) (z : Int32) (h1 : oIn x nS = false) : vx_Met l yX4_setPassers wsX4_setPassers ({ frames := 8, cells := 1, slots := 6, locals := 124 } : Room) (va_Pc [.ref (G.2.1 0), .int x, .int y, .int z] (PX G (cw G (z3 α β γ)))) oNo (oXC "java/lang/IndexOutOfBoundsException") 1 6 (fun _ => False) := by
  refine ox_body (cc := cX4_setPassers) (by decide +kernel) rfl (Nat.le_of_ble_eq_true rfl) ?_
  intro p e s m below meth c ls hx hb hml ht hlocks hown hts hP hK hN hE hl
  have hown : s.vm.findClass RX4 = some m.cls := hown
  have hl : lv_has ls 6 [(0, .ref (G.2.1 0)), (1, .int x), (2, .int y), (3, .int z)] := hl
  obtain ⟨hz1, hz2, hz3, hz4, hz5, hz6, hz7⟩ := id hz
  refine lv_aload_n hx hb dX4_setPassers_0 rfl (lv_at hl 0 rfl) ?_
  refine lv_iload_n hx hb dX4_setPassers_1 rfl (lv_at hl 1 rfl) ?_
  exact ox_cV (q0 := 0) (ci := 6) [.int x] [] ⟨hx, hb, hml, hown, hts⟩ (mx_X4_checkStreet_i l hst G α β γ nS nO nH hz x (h1)) (cwV 1 hts gX4_setPassers_X4_checkStreet rfl rfl rfl (by decide +kernel) ⟨Nat.le_of_ble_eq_true rfl, Nat.le_of_ble_eq_true rfl⟩) hK hN hP hE rfl rfl (cx_C G (z3 α β γ)) rfl hl.1 rfl (Nat.le_of_ble_eq_true rfl) dX4_setPassers_2 ⟨Nat.le_of_ble_eq_true rfl, Nat.le_of_ble_eq_true rfl⟩ ht hlocks
set_option maxHeartbeats 4000000 in
set_option maxRecDepth 100000 in
theorem mx_X4_setPassers_h (l : Launch) (hst : l.stackTraces = false) (G : oG) (α β γ : oT) (nS : Nat) (nO : Nat) (nH : Nat) (hz : oOK α nS nO nH) (x : Int32) (y : Int32) (z : Int32) (h1 : oIn x nS = true) (h2 : oIn y 24 = false) : vx_Met l yX4_setPassers wsX4_setPassers ({ frames := 7, cells := 1, slots := 6, locals := 103 } : Room) (va_Pc [.ref (G.2.1 0), .int x, .int y, .int z] (PX G (cw G (z3 α β γ)))) oNo (oXC "java/lang/IndexOutOfBoundsException") 1 6 (fun _ => False) := by
  refine ox_body (cc := cX4_setPassers) (by decide +kernel) rfl (Nat.le_of_ble_eq_true rfl) ?_
  intro p e s m below meth c ls hx hb hml ht hlocks hown hts hP hK hN hE hl
  have hown : s.vm.findClass RX4 = some m.cls := hown
  have hl : lv_has ls 6 [(0, .ref (G.2.1 0)), (1, .int x), (2, .int y), (3, .int z)] := hl
  obtain ⟨hz1, hz2, hz3, hz4, hz5, hz6, hz7⟩ := id hz
  refine lv_aload_n hx hb dX4_setPassers_0 rfl (lv_at hl 0 rfl) ?_
  refine lv_iload_n hx hb dX4_setPassers_1 rfl (lv_at hl 1 rfl) ?_
  refine o_cVv (q0 := 0) (ci := 6) [.int x] [] ⟨hx, hb, hml, hown, hts⟩ (m_X4_checkStreet l G α β γ nS nO nH hz x (h1)) (cwV 1 hts gX4_setPassers_X4_checkStreet rfl rfl rfl (by decide +kernel) ⟨Nat.le_of_ble_eq_true rfl, Nat.le_of_ble_eq_true rfl⟩) hK hN hP rfl rfl (cx_C G (z3 α β γ)) rfl hl.1 rfl (Nat.le_of_ble_eq_true rfl) dX4_setPassers_2 ⟨Nat.zero_le _, Nat.zero_le _⟩ ?_
  refine lv_iload_n hx hb dX4_setPassers_5 rfl (lv_at hl 2 rfl) ?_
  refine lv_bipush (v := 24) hx hb dX4_setPassers_6 (by decide) ?_
  exact ox_cS [.int y, .int 24] [] ⟨hx, hb, hml, hown, hts⟩ (mx_X4_checkIndex_i l hst G α β γ y 24 24 ((by decide)) (h2)) (va_cwS 2 hts gX4_setPassers_X4_checkIndex rfl rfl rfl (by decide +kernel) ⟨Nat.le_of_ble_eq_true rfl, Nat.le_of_ble_eq_true rfl⟩) hK hN hP hE rfl hl.1 rfl (Nat.le_of_ble_eq_true rfl) dX4_setPassers_8 ⟨Nat.le_of_ble_eq_true rfl, Nat.le_of_ble_eq_true rfl⟩ ht hlocks
set_option maxHeartbeats 4000000 in
set_option maxRecDepth 100000 in
theorem mx_X4_setPassers_p (l : Launch) (hst : l.stackTraces = false) (G : oG) (α β γ : oT) (nS : Nat) (nO : Nat) (nH : Nat) (hz : oOK α nS nO nH) (x : Int32) (y : Int32) (z : Int32) (h1 : oIn x nS = true) (h2 : oIn y 24 = true) (h3 : oRg z 0 99 = false) : vx_Met l yX4_setPassers wsX4_setPassers ({ frames := 7, cells := 1, slots := 6, locals := 104 } : Room) (va_Pc [.ref (G.2.1 0), .int x, .int y, .int z] (PX G (cw G (z3 α β γ)))) oNo (oXC "java/lang/IllegalArgumentException") 1 6 (fun _ => False) := by
  refine ox_body (cc := cX4_setPassers) (by decide +kernel) rfl (Nat.le_of_ble_eq_true rfl) ?_
  intro p e s m below meth c ls hx hb hml ht hlocks hown hts hP hK hN hE hl
  have hown : s.vm.findClass RX4 = some m.cls := hown
  have hl : lv_has ls 6 [(0, .ref (G.2.1 0)), (1, .int x), (2, .int y), (3, .int z)] := hl
  obtain ⟨hz1, hz2, hz3, hz4, hz5, hz6, hz7⟩ := id hz
  refine lv_aload_n hx hb dX4_setPassers_0 rfl (lv_at hl 0 rfl) ?_
  refine lv_iload_n hx hb dX4_setPassers_1 rfl (lv_at hl 1 rfl) ?_
  refine o_cVv (q0 := 0) (ci := 6) [.int x] [] ⟨hx, hb, hml, hown, hts⟩ (m_X4_checkStreet l G α β γ nS nO nH hz x (h1)) (cwV 1 hts gX4_setPassers_X4_checkStreet rfl rfl rfl (by decide +kernel) ⟨Nat.le_of_ble_eq_true rfl, Nat.le_of_ble_eq_true rfl⟩) hK hN hP rfl rfl (cx_C G (z3 α β γ)) rfl hl.1 rfl (Nat.le_of_ble_eq_true rfl) dX4_setPassers_2 ⟨Nat.zero_le _, Nat.zero_le _⟩ ?_
  refine lv_iload_n hx hb dX4_setPassers_5 rfl (lv_at hl 2 rfl) ?_
  refine lv_bipush (v := 24) hx hb dX4_setPassers_6 (by decide) ?_
  refine o_cSv [.int y, .int 24] [] ⟨hx, hb, hml, hown, hts⟩ (m_X4_checkIndex l G α β γ y 24 24 ((by decide)) (by omega) (h2)) (va_cwS 2 hts gX4_setPassers_X4_checkIndex rfl rfl rfl (by decide +kernel) ⟨Nat.le_of_ble_eq_true rfl, Nat.le_of_ble_eq_true rfl⟩) hK hN hP rfl hl.1 rfl (Nat.le_of_ble_eq_true rfl) dX4_setPassers_8 ⟨Nat.zero_le _, Nat.zero_le _⟩ ?_
  refine lv_iload_n hx hb dX4_setPassers_11 rfl (lv_at hl 3 rfl) ?_
  refine lv_iconst (v := 0) hx hb dX4_setPassers_12 (by decide) ?_
  refine lv_bipush (v := 99) hx hb dX4_setPassers_13 (by decide) ?_
  exact ox_cS [.int z, .int 0, .int 99] [] ⟨hx, hb, hml, hown, hts⟩ (mx_X4_checkRange_r l hst G α β γ z 0 99 (h3)) (va_cwS 3 hts gX4_setPassers_X4_checkRange rfl rfl rfl (by decide +kernel) ⟨Nat.le_of_ble_eq_true rfl, Nat.le_of_ble_eq_true rfl⟩) hK hN hP hE rfl hl.1 rfl (Nat.le_of_ble_eq_true rfl) dX4_setPassers_15 ⟨Nat.le_of_ble_eq_true rfl, Nat.le_of_ble_eq_true rfl⟩ ht hlocks
set_option maxHeartbeats 4000000 in
set_option maxRecDepth 100000 in
theorem mx_X4_setTaste_s (l : Launch) (hst : l.stackTraces = false) (G : oG) (α β γ : oT) (nS : Nat) (nO : Nat) (nH : Nat) (hz : oOK α nS nO nH) (x : Int32) (y : Int32) (z : Int32) (h1 : oIn x nS = false) : vx_Met l yX4_setTaste wsX4_setTaste ({ frames := 8, cells := 1, slots := 6, locals := 124 } : Room) (va_Pc [.ref (G.2.1 0), .int x, .int y, .int z] (PX G (cw G (z3 α β γ)))) oNo (oXC "java/lang/IndexOutOfBoundsException") 1 6 (fun _ => False) := by
  refine ox_body (cc := cX4_setTaste) (by decide +kernel) rfl (Nat.le_of_ble_eq_true rfl) ?_
  intro p e s m below meth c ls hx hb hml ht hlocks hown hts hP hK hN hE hl
  have hown : s.vm.findClass RX4 = some m.cls := hown
  have hl : lv_has ls 6 [(0, .ref (G.2.1 0)), (1, .int x), (2, .int y), (3, .int z)] := hl
  obtain ⟨hz1, hz2, hz3, hz4, hz5, hz6, hz7⟩ := id hz
  refine lv_aload_n hx hb dX4_setTaste_0 rfl (lv_at hl 0 rfl) ?_
  refine lv_iload_n hx hb dX4_setTaste_1 rfl (lv_at hl 1 rfl) ?_
  exact ox_cV (q0 := 0) (ci := 6) [.int x] [] ⟨hx, hb, hml, hown, hts⟩ (mx_X4_checkStreet_i l hst G α β γ nS nO nH hz x (h1)) (cwV 1 hts gX4_setTaste_X4_checkStreet rfl rfl rfl (by decide +kernel) ⟨Nat.le_of_ble_eq_true rfl, Nat.le_of_ble_eq_true rfl⟩) hK hN hP hE rfl rfl (cx_C G (z3 α β γ)) rfl hl.1 rfl (Nat.le_of_ble_eq_true rfl) dX4_setTaste_2 ⟨Nat.le_of_ble_eq_true rfl, Nat.le_of_ble_eq_true rfl⟩ ht hlocks
set_option maxHeartbeats 4000000 in
set_option maxRecDepth 100000 in
theorem mx_X4_setTaste_h (l : Launch) (hst : l.stackTraces = false) (G : oG) (α β γ : oT) (nS : Nat) (nO : Nat) (nH : Nat) (hz : oOK α nS nO nH) (x : Int32) (y : Int32) (z : Int32) (h1 : oIn x nS = true) (h2 : oIn y 6 = false) : vx_Met l yX4_setTaste wsX4_setTaste ({ frames := 7, cells := 1, slots := 6, locals := 103 } : Room) (va_Pc [.ref (G.2.1 0), .int x, .int y, .int z] (PX G (cw G (z3 α β γ)))) oNo (oXC "java/lang/IndexOutOfBoundsException") 1 6 (fun _ => False) := by
  refine ox_body (cc := cX4_setTaste) (by decide +kernel) rfl (Nat.le_of_ble_eq_true rfl) ?_
  intro p e s m below meth c ls hx hb hml ht hlocks hown hts hP hK hN hE hl
  have hown : s.vm.findClass RX4 = some m.cls := hown
  have hl : lv_has ls 6 [(0, .ref (G.2.1 0)), (1, .int x), (2, .int y), (3, .int z)] := hl
  obtain ⟨hz1, hz2, hz3, hz4, hz5, hz6, hz7⟩ := id hz
  refine lv_aload_n hx hb dX4_setTaste_0 rfl (lv_at hl 0 rfl) ?_
  refine lv_iload_n hx hb dX4_setTaste_1 rfl (lv_at hl 1 rfl) ?_
  refine o_cVv (q0 := 0) (ci := 6) [.int x] [] ⟨hx, hb, hml, hown, hts⟩ (m_X4_checkStreet l G α β γ nS nO nH hz x (h1)) (cwV 1 hts gX4_setTaste_X4_checkStreet rfl rfl rfl (by decide +kernel) ⟨Nat.le_of_ble_eq_true rfl, Nat.le_of_ble_eq_true rfl⟩) hK hN hP rfl rfl (cx_C G (z3 α β γ)) rfl hl.1 rfl (Nat.le_of_ble_eq_true rfl) dX4_setTaste_2 ⟨Nat.zero_le _, Nat.zero_le _⟩ ?_
  refine lv_iload_n hx hb dX4_setTaste_5 rfl (lv_at hl 2 rfl) ?_
  refine lv_bipush (v := 6) hx hb dX4_setTaste_6 (by decide) ?_
  exact ox_cS [.int y, .int 6] [] ⟨hx, hb, hml, hown, hts⟩ (mx_X4_checkIndex_i l hst G α β γ y 6 6 ((by decide)) (h2)) (va_cwS 2 hts gX4_setTaste_X4_checkIndex rfl rfl rfl (by decide +kernel) ⟨Nat.le_of_ble_eq_true rfl, Nat.le_of_ble_eq_true rfl⟩) hK hN hP hE rfl hl.1 rfl (Nat.le_of_ble_eq_true rfl) dX4_setTaste_8 ⟨Nat.le_of_ble_eq_true rfl, Nat.le_of_ble_eq_true rfl⟩ ht hlocks
set_option maxHeartbeats 4000000 in
set_option maxRecDepth 100000 in
theorem mx_X4_setTaste_p (l : Launch) (hst : l.stackTraces = false) (G : oG) (α β γ : oT) (nS : Nat) (nO : Nat) (nH : Nat) (hz : oOK α nS nO nH) (x : Int32) (y : Int32) (z : Int32) (h1 : oIn x nS = true) (h2 : oIn y 6 = true) (h3 : oRg z 0 9 = false) : vx_Met l yX4_setTaste wsX4_setTaste ({ frames := 7, cells := 1, slots := 6, locals := 104 } : Room) (va_Pc [.ref (G.2.1 0), .int x, .int y, .int z] (PX G (cw G (z3 α β γ)))) oNo (oXC "java/lang/IllegalArgumentException") 1 6 (fun _ => False) := by
  refine ox_body (cc := cX4_setTaste) (by decide +kernel) rfl (Nat.le_of_ble_eq_true rfl) ?_
  intro p e s m below meth c ls hx hb hml ht hlocks hown hts hP hK hN hE hl
  have hown : s.vm.findClass RX4 = some m.cls := hown
  have hl : lv_has ls 6 [(0, .ref (G.2.1 0)), (1, .int x), (2, .int y), (3, .int z)] := hl
  obtain ⟨hz1, hz2, hz3, hz4, hz5, hz6, hz7⟩ := id hz
  refine lv_aload_n hx hb dX4_setTaste_0 rfl (lv_at hl 0 rfl) ?_
  refine lv_iload_n hx hb dX4_setTaste_1 rfl (lv_at hl 1 rfl) ?_
  refine o_cVv (q0 := 0) (ci := 6) [.int x] [] ⟨hx, hb, hml, hown, hts⟩ (m_X4_checkStreet l G α β γ nS nO nH hz x (h1)) (cwV 1 hts gX4_setTaste_X4_checkStreet rfl rfl rfl (by decide +kernel) ⟨Nat.le_of_ble_eq_true rfl, Nat.le_of_ble_eq_true rfl⟩) hK hN hP rfl rfl (cx_C G (z3 α β γ)) rfl hl.1 rfl (Nat.le_of_ble_eq_true rfl) dX4_setTaste_2 ⟨Nat.zero_le _, Nat.zero_le _⟩ ?_
  refine lv_iload_n hx hb dX4_setTaste_5 rfl (lv_at hl 2 rfl) ?_
  refine lv_bipush (v := 6) hx hb dX4_setTaste_6 (by decide) ?_
  refine o_cSv [.int y, .int 6] [] ⟨hx, hb, hml, hown, hts⟩ (m_X4_checkIndex l G α β γ y 6 6 ((by decide)) (by omega) (h2)) (va_cwS 2 hts gX4_setTaste_X4_checkIndex rfl rfl rfl (by decide +kernel) ⟨Nat.le_of_ble_eq_true rfl, Nat.le_of_ble_eq_true rfl⟩) hK hN hP rfl hl.1 rfl (Nat.le_of_ble_eq_true rfl) dX4_setTaste_8 ⟨Nat.zero_le _, Nat.zero_le _⟩ ?_
  refine lv_iload_n hx hb dX4_setTaste_11 rfl (lv_at hl 3 rfl) ?_
  refine lv_iconst (v := 0) hx hb dX4_setTaste_12 (by decide) ?_
  refine lv_bipush (v := 9) hx hb dX4_setTaste_13 (by decide) ?_
  exact ox_cS [.int z, .int 0, .int 9] [] ⟨hx, hb, hml, hown, hts⟩ (mx_X4_checkRange_r l hst G α β γ z 0 9 (h3)) (va_cwS 3 hts gX4_setTaste_X4_checkRange rfl rfl rfl (by decide +kernel) ⟨Nat.le_of_ble_eq_true rfl, Nat.le_of_ble_eq_true rfl⟩) hK hN hP hE rfl hl.1 rfl (Nat.le_of_ble_eq_true rfl) dX4_setTaste_15 ⟨Nat.le_of_ble_eq_true rfl, Nat.le_of_ble_eq_true rfl⟩ ht hlocks
set_option maxHeartbeats 4000000 in
set_option maxRecDepth 100000 in
theorem mx_X4_street_s (l : Launch) (hst : l.stackTraces = false) (G : oG) (α β γ : oT) (nS : Nat) (nO : Nat) (nH : Nat) (hz : oOK α nS nO nH) (x : Int32) (y : Int32) (h1 : oIn x nS = false) : vx_Met l yX4_street wsX4_street ({ frames := 8, cells := 1, slots := 6, locals := 124 } : Room) (va_Pc [.ref (G.2.1 0), .int x, .int y] (PX G (cw G (z3 α β γ)))) oNo (oXC "java/lang/IndexOutOfBoundsException") 1 6 (fun _ => False) := by
  refine ox_body (cc := cX4_street) (by decide +kernel) rfl (Nat.le_of_ble_eq_true rfl) ?_
  intro p e s m below meth c ls hx hb hml ht hlocks hown hts hP hK hN hE hl
  have hown : s.vm.findClass RX4 = some m.cls := hown
  have hl : lv_has ls 3 [(0, .ref (G.2.1 0)), (1, .int x), (2, .int y)] := hl
  obtain ⟨hz1, hz2, hz3, hz4, hz5, hz6, hz7⟩ := id hz
  refine lv_aload_n hx hb dX4_street_0 rfl (lv_at hl 0 rfl) ?_
  refine lv_iload_n hx hb dX4_street_1 rfl (lv_at hl 1 rfl) ?_
  exact ox_cV (q0 := 0) (ci := 6) [.int x] [] ⟨hx, hb, hml, hown, hts⟩ (mx_X4_checkStreet_i l hst G α β γ nS nO nH hz x (h1)) (cwV 1 hts gX4_street_X4_checkStreet rfl rfl rfl (by decide +kernel) ⟨Nat.le_of_ble_eq_true rfl, Nat.le_of_ble_eq_true rfl⟩) hK hN hP hE rfl rfl (cx_C G (z3 α β γ)) rfl hl.1 rfl (Nat.le_of_ble_eq_true rfl) dX4_street_2 ⟨Nat.le_of_ble_eq_true rfl, Nat.le_of_ble_eq_true rfl⟩ ht hlocks
set_option maxHeartbeats 4000000 in
set_option maxRecDepth 100000 in
theorem mx_X4_street_h (l : Launch) (hst : l.stackTraces = false) (G : oG) (α β γ : oT) (nS : Nat) (nO : Nat) (nH : Nat) (hz : oOK α nS nO nH) (x : Int32) (y : Int32) (h1 : oIn x nS = true) (h2 : oIn y 8 = false) : vx_Met l yX4_street wsX4_street ({ frames := 7, cells := 1, slots := 6, locals := 103 } : Room) (va_Pc [.ref (G.2.1 0), .int x, .int y] (PX G (cw G (z3 α β γ)))) oNo (oXC "java/lang/IndexOutOfBoundsException") 1 6 (fun _ => False) := by
  refine ox_body (cc := cX4_street) (by decide +kernel) rfl (Nat.le_of_ble_eq_true rfl) ?_
  intro p e s m below meth c ls hx hb hml ht hlocks hown hts hP hK hN hE hl
  have hown : s.vm.findClass RX4 = some m.cls := hown
  have hl : lv_has ls 3 [(0, .ref (G.2.1 0)), (1, .int x), (2, .int y)] := hl
  obtain ⟨hz1, hz2, hz3, hz4, hz5, hz6, hz7⟩ := id hz
  refine lv_aload_n hx hb dX4_street_0 rfl (lv_at hl 0 rfl) ?_
  refine lv_iload_n hx hb dX4_street_1 rfl (lv_at hl 1 rfl) ?_
  refine o_cVv (q0 := 0) (ci := 6) [.int x] [] ⟨hx, hb, hml, hown, hts⟩ (m_X4_checkStreet l G α β γ nS nO nH hz x (h1)) (cwV 1 hts gX4_street_X4_checkStreet rfl rfl rfl (by decide +kernel) ⟨Nat.le_of_ble_eq_true rfl, Nat.le_of_ble_eq_true rfl⟩) hK hN hP rfl rfl (cx_C G (z3 α β γ)) rfl hl.1 rfl (Nat.le_of_ble_eq_true rfl) dX4_street_2 ⟨Nat.zero_le _, Nat.zero_le _⟩ ?_
  refine lv_iload_n hx hb dX4_street_5 rfl (lv_at hl 2 rfl) ?_
  refine lv_bipush (v := 8) hx hb dX4_street_6 (by decide) ?_
  exact ox_cS [.int y, .int 8] [] ⟨hx, hb, hml, hown, hts⟩ (mx_X4_checkIndex_i l hst G α β γ y 8 8 ((by decide)) (h2)) (va_cwS 2 hts gX4_street_X4_checkIndex rfl rfl rfl (by decide +kernel) ⟨Nat.le_of_ble_eq_true rfl, Nat.le_of_ble_eq_true rfl⟩) hK hN hP hE rfl hl.1 rfl (Nat.le_of_ble_eq_true rfl) dX4_street_8 ⟨Nat.le_of_ble_eq_true rfl, Nat.le_of_ble_eq_true rfl⟩ ht hlocks
set_option maxHeartbeats 4000000 in
set_option maxRecDepth 100000 in
theorem mx_X4_ear_s (l : Launch) (hst : l.stackTraces = false) (G : oG) (α β γ : oT) (nS : Nat) (nO : Nat) (nH : Nat) (hz : oOK α nS nO nH) (x : Int32) (y : Int32) (bb : Bool) (h1 : oIn x nS = false) : vx_Met l yX4_ear wsX4_ear ({ frames := 8, cells := 1, slots := 6, locals := 124 } : Room) (va_Pc [.ref (G.2.1 0), .int x, .int y, .int (bI bb)] (PX G (cw G (z3 α β γ)))) oNo (oXC "java/lang/IndexOutOfBoundsException") 1 6 (fun _ => False) := by
  refine ox_body (cc := cX4_ear) (by decide +kernel) rfl (Nat.le_of_ble_eq_true rfl) ?_
  intro p e s m below meth c ls hx hb hml ht hlocks hown hts hP hK hN hE hl
  have hown : s.vm.findClass RX4 = some m.cls := hown
  have hl : lv_has ls 5 [(0, .ref (G.2.1 0)), (1, .int x), (2, .int y), (3, .int (bI bb))] := hl
  obtain ⟨hz1, hz2, hz3, hz4, hz5, hz6, hz7⟩ := id hz
  refine lv_aload_n hx hb dX4_ear_0 rfl (lv_at hl 0 rfl) ?_
  refine lv_iload_n hx hb dX4_ear_1 rfl (lv_at hl 1 rfl) ?_
  exact ox_cV (q0 := 0) (ci := 6) [.int x] [] ⟨hx, hb, hml, hown, hts⟩ (mx_X4_checkStreet_i l hst G α β γ nS nO nH hz x (h1)) (cwV 1 hts gX4_ear_X4_checkStreet rfl rfl rfl (by decide +kernel) ⟨Nat.le_of_ble_eq_true rfl, Nat.le_of_ble_eq_true rfl⟩) hK hN hP hE rfl rfl (cx_C G (z3 α β γ)) rfl hl.1 rfl (Nat.le_of_ble_eq_true rfl) dX4_ear_2 ⟨Nat.le_of_ble_eq_true rfl, Nat.le_of_ble_eq_true rfl⟩ ht hlocks
set_option maxHeartbeats 4000000 in
set_option maxRecDepth 100000 in
theorem mx_X4_ear_h (l : Launch) (hst : l.stackTraces = false) (G : oG) (α β γ : oT) (nS : Nat) (nO : Nat) (nH : Nat) (hz : oOK α nS nO nH) (x : Int32) (y : Int32) (bb : Bool) (h1 : oIn x nS = true) (h2 : oIn y 6 = false) : vx_Met l yX4_ear wsX4_ear ({ frames := 7, cells := 1, slots := 6, locals := 103 } : Room) (va_Pc [.ref (G.2.1 0), .int x, .int y, .int (bI bb)] (PX G (cw G (z3 α β γ)))) oNo (oXC "java/lang/IndexOutOfBoundsException") 1 6 (fun _ => False) := by
  refine ox_body (cc := cX4_ear) (by decide +kernel) rfl (Nat.le_of_ble_eq_true rfl) ?_
  intro p e s m below meth c ls hx hb hml ht hlocks hown hts hP hK hN hE hl
  have hown : s.vm.findClass RX4 = some m.cls := hown
  have hl : lv_has ls 5 [(0, .ref (G.2.1 0)), (1, .int x), (2, .int y), (3, .int (bI bb))] := hl
  obtain ⟨hz1, hz2, hz3, hz4, hz5, hz6, hz7⟩ := id hz
  refine lv_aload_n hx hb dX4_ear_0 rfl (lv_at hl 0 rfl) ?_
  refine lv_iload_n hx hb dX4_ear_1 rfl (lv_at hl 1 rfl) ?_
  refine o_cVv (q0 := 0) (ci := 6) [.int x] [] ⟨hx, hb, hml, hown, hts⟩ (m_X4_checkStreet l G α β γ nS nO nH hz x (h1)) (cwV 1 hts gX4_ear_X4_checkStreet rfl rfl rfl (by decide +kernel) ⟨Nat.le_of_ble_eq_true rfl, Nat.le_of_ble_eq_true rfl⟩) hK hN hP rfl rfl (cx_C G (z3 α β γ)) rfl hl.1 rfl (Nat.le_of_ble_eq_true rfl) dX4_ear_2 ⟨Nat.zero_le _, Nat.zero_le _⟩ ?_
  refine lv_iload_n hx hb dX4_ear_5 rfl (lv_at hl 2 rfl) ?_
  refine lv_bipush (v := 6) hx hb dX4_ear_6 (by decide) ?_
  exact ox_cS [.int y, .int 6] [] ⟨hx, hb, hml, hown, hts⟩ (mx_X4_checkIndex_i l hst G α β γ y 6 6 ((by decide)) (h2)) (va_cwS 2 hts gX4_ear_X4_checkIndex rfl rfl rfl (by decide +kernel) ⟨Nat.le_of_ble_eq_true rfl, Nat.le_of_ble_eq_true rfl⟩) hK hN hP hE rfl hl.1 rfl (Nat.le_of_ble_eq_true rfl) dX4_ear_8 ⟨Nat.le_of_ble_eq_true rfl, Nat.le_of_ble_eq_true rfl⟩ ht hlocks
set_option maxHeartbeats 4000000 in
set_option maxRecDepth 100000 in
theorem mx_X4_addOrgan_a (l : Launch) (hst : l.stackTraces = false) (G : oG) (α β γ : oT) (nS : Nat) (nO : Nat) (nH : Nat) (hz : oOK α nS nO nH) (x : Int32) (y : Int32) (z : Int32) (h1 : oIn x nS = false) : vx_Met l yX4_addOrgan wsX4_addOrgan ({ frames := 9, cells := 1, slots := 6, locals := 146 } : Room) (va_Pc [.ref (G.2.1 0), .int x, .int y, .int z] (PX G (cw G (z3 α β γ)))) oNo (oXC "java/lang/IndexOutOfBoundsException") 1 6 (fun _ => False) := by
  refine ox_body (cc := cX4_addOrgan) (by decide +kernel) rfl (Nat.le_of_ble_eq_true rfl) ?_
  intro p e s m below meth c ls hx hb hml ht hlocks hown hts hP hK hN hE hl
  have hown : s.vm.findClass RX4 = some m.cls := hown
  have hl : lv_has ls 4 [(0, .ref (G.2.1 0)), (1, .int x), (2, .int y), (3, .int z)] := hl
  obtain ⟨hz1, hz2, hz3, hz4, hz5, hz6, hz7⟩ := id hz
  refine lv_aload_n hx hb dX4_addOrgan_0 rfl (lv_at hl 0 rfl) ?_
  refine lv_iload_n hx hb dX4_addOrgan_1 rfl (lv_at hl 1 rfl) ?_
  refine lv_iload_n hx hb dX4_addOrgan_2 rfl (lv_at hl 2 rfl) ?_
  exact ox_cV (q0 := 0) (ci := 6) [.int x, .int y] [] ⟨hx, hb, hml, hown, hts⟩ (mx_X4_checkPitch_a l hst G α β γ nS nO nH hz x y (h1)) (cwV 2 hts gX4_addOrgan_X4_checkPitch rfl rfl rfl (by decide +kernel) ⟨Nat.le_of_ble_eq_true rfl, Nat.le_of_ble_eq_true rfl⟩) hK hN hP hE rfl rfl (cx_C G (z3 α β γ)) rfl hl.1 rfl (Nat.le_of_ble_eq_true rfl) dX4_addOrgan_3 ⟨Nat.le_of_ble_eq_true rfl, Nat.le_of_ble_eq_true rfl⟩ ht hlocks
set_option maxHeartbeats 4000000 in
set_option maxRecDepth 100000 in
theorem mx_X4_addOrgan_b (l : Launch) (hst : l.stackTraces = false) (G : oG) (α β γ : oT) (nS : Nat) (nO : Nat) (nH : Nat) (hz : oOK α nS nO nH) (x : Int32) (y : Int32) (z : Int32) (h1 : oIn x nS = true) (h2 : oIn y (oNp α (oN x)) = false) : vx_Met l yX4_addOrgan wsX4_addOrgan ({ frames := 8, cells := 1, slots := 6, locals := 125 } : Room) (va_Pc [.ref (G.2.1 0), .int x, .int y, .int z] (PX G (cw G (z3 α β γ)))) oNo (oXC "java/lang/IndexOutOfBoundsException") 1 6 (fun _ => False) := by
  refine ox_body (cc := cX4_addOrgan) (by decide +kernel) rfl (Nat.le_of_ble_eq_true rfl) ?_
  intro p e s m below meth c ls hx hb hml ht hlocks hown hts hP hK hN hE hl
  have hown : s.vm.findClass RX4 = some m.cls := hown
  have hl : lv_has ls 4 [(0, .ref (G.2.1 0)), (1, .int x), (2, .int y), (3, .int z)] := hl
  obtain ⟨hz1, hz2, hz3, hz4, hz5, hz6, hz7⟩ := id hz
  refine lv_aload_n hx hb dX4_addOrgan_0 rfl (lv_at hl 0 rfl) ?_
  refine lv_iload_n hx hb dX4_addOrgan_1 rfl (lv_at hl 1 rfl) ?_
  refine lv_iload_n hx hb dX4_addOrgan_2 rfl (lv_at hl 2 rfl) ?_
  exact ox_cV (q0 := 0) (ci := 6) [.int x, .int y] [] ⟨hx, hb, hml, hown, hts⟩ (mx_X4_checkPitch_b l hst G α β γ nS nO nH hz x y (h1) (h2)) (cwV 2 hts gX4_addOrgan_X4_checkPitch rfl rfl rfl (by decide +kernel) ⟨Nat.le_of_ble_eq_true rfl, Nat.le_of_ble_eq_true rfl⟩) hK hN hP hE rfl rfl (cx_C G (z3 α β γ)) rfl hl.1 rfl (Nat.le_of_ble_eq_true rfl) dX4_addOrgan_3 ⟨Nat.le_of_ble_eq_true rfl, Nat.le_of_ble_eq_true rfl⟩ ht hlocks
set_option maxHeartbeats 4000000 in
set_option maxRecDepth 100000 in
theorem mx_X4_addOrgan_r (l : Launch) (hst : l.stackTraces = false) (G : oG) (α β γ : oT) (nS : Nat) (nO : Nat) (nH : Nat) (hz : oOK α nS nO nH) (x : Int32) (y : Int32) (z : Int32) (h1 : oIn x nS = true) (h2 : oIn y (oNp α (oN x)) = true) (h3 : oRg z 1 9 = false) : vx_Met l yX4_addOrgan wsX4_addOrgan ({ frames := 7, cells := 1, slots := 6, locals := 104 } : Room) (va_Pc [.ref (G.2.1 0), .int x, .int y, .int z] (PX G (cw G (z3 α β γ)))) oNo (oXC "java/lang/IllegalArgumentException") 1 6 (fun _ => False) := by
  refine ox_body (cc := cX4_addOrgan) (by decide +kernel) rfl (Nat.le_of_ble_eq_true rfl) ?_
  intro p e s m below meth c ls hx hb hml ht hlocks hown hts hP hK hN hE hl
  have hown : s.vm.findClass RX4 = some m.cls := hown
  have hl : lv_has ls 4 [(0, .ref (G.2.1 0)), (1, .int x), (2, .int y), (3, .int z)] := hl
  obtain ⟨hz1, hz2, hz3, hz4, hz5, hz6, hz7⟩ := id hz
  refine lv_aload_n hx hb dX4_addOrgan_0 rfl (lv_at hl 0 rfl) ?_
  refine lv_iload_n hx hb dX4_addOrgan_1 rfl (lv_at hl 1 rfl) ?_
  refine lv_iload_n hx hb dX4_addOrgan_2 rfl (lv_at hl 2 rfl) ?_
  refine o_cVv (q0 := 0) (ci := 6) [.int x, .int y] [] ⟨hx, hb, hml, hown, hts⟩ (m_X4_checkPitch l G α β γ nS nO nH hz x y (h1) (h2)) (cwV 2 hts gX4_addOrgan_X4_checkPitch rfl rfl rfl (by decide +kernel) ⟨Nat.le_of_ble_eq_true rfl, Nat.le_of_ble_eq_true rfl⟩) hK hN hP rfl rfl (cx_C G (z3 α β γ)) rfl hl.1 rfl (Nat.le_of_ble_eq_true rfl) dX4_addOrgan_3 ⟨Nat.zero_le _, Nat.zero_le _⟩ ?_
  refine lv_iload_n hx hb dX4_addOrgan_6 rfl (lv_at hl 3 rfl) ?_
  refine lv_iconst (v := 1) hx hb dX4_addOrgan_7 (by decide) ?_
  refine lv_bipush (v := 9) hx hb dX4_addOrgan_8 (by decide) ?_
  exact ox_cS [.int z, .int 1, .int 9] [] ⟨hx, hb, hml, hown, hts⟩ (mx_X4_checkRange_r l hst G α β γ z 1 9 (h3)) (va_cwS 3 hts gX4_addOrgan_X4_checkRange rfl rfl rfl (by decide +kernel) ⟨Nat.le_of_ble_eq_true rfl, Nat.le_of_ble_eq_true rfl⟩) hK hN hP hE rfl hl.1 rfl (Nat.le_of_ble_eq_true rfl) dX4_addOrgan_10 ⟨Nat.le_of_ble_eq_true rfl, Nat.le_of_ble_eq_true rfl⟩ ht hlocks
set_option maxHeartbeats 4000000 in
set_option maxRecDepth 100000 in
theorem mx_X4_addOrgan_f (l : Launch) (hst : l.stackTraces = false) (G : oG) (α β γ : oT) (nS : Nat) (nO : Nat) (nH : Nat) (hz : oOK α nS nO nH) (x : Int32) (y : Int32) (z : Int32) (h1 : oIn x nS = true) (h2 : oIn y (oNp α (oN x)) = true) (h3 : oRg z 1 9 = true) (h4 : nO = 8) : vx_Met l yX4_addOrgan wsX4_addOrgan ({ frames := 6, cells := 1, slots := 6, locals := 82 } : Room) (va_Pc [.ref (G.2.1 0), .int x, .int y, .int z] (PX G (cw G (z3 α β γ)))) oNo (oXC "java/lang/IllegalStateException") 1 6 (fun _ => False) := by
  refine ox_body (cc := cX4_addOrgan) (by decide +kernel) rfl (Nat.le_of_ble_eq_true rfl) ?_
  intro p e s m below meth c ls hx hb hml ht hlocks hown hts hP hK hN hE hl
  have hown : s.vm.findClass RX4 = some m.cls := hown
  have hl : lv_has ls 4 [(0, .ref (G.2.1 0)), (1, .int x), (2, .int y), (3, .int z)] := hl
  obtain ⟨hz1, hz2, hz3, hz4, hz5, hz6, hz7⟩ := id hz
  refine lv_aload_n hx hb dX4_addOrgan_0 rfl (lv_at hl 0 rfl) ?_
  refine lv_iload_n hx hb dX4_addOrgan_1 rfl (lv_at hl 1 rfl) ?_
  refine lv_iload_n hx hb dX4_addOrgan_2 rfl (lv_at hl 2 rfl) ?_
  refine o_cVv (q0 := 0) (ci := 6) [.int x, .int y] [] ⟨hx, hb, hml, hown, hts⟩ (m_X4_checkPitch l G α β γ nS nO nH hz x y (h1) (h2)) (cwV 2 hts gX4_addOrgan_X4_checkPitch rfl rfl rfl (by decide +kernel) ⟨Nat.le_of_ble_eq_true rfl, Nat.le_of_ble_eq_true rfl⟩) hK hN hP rfl rfl (cx_C G (z3 α β γ)) rfl hl.1 rfl (Nat.le_of_ble_eq_true rfl) dX4_addOrgan_3 ⟨Nat.zero_le _, Nat.zero_le _⟩ ?_
  refine lv_iload_n hx hb dX4_addOrgan_6 rfl (lv_at hl 3 rfl) ?_
  refine lv_iconst (v := 1) hx hb dX4_addOrgan_7 (by decide) ?_
  refine lv_bipush (v := 9) hx hb dX4_addOrgan_8 (by decide) ?_
  refine o_cSv [.int z, .int 1, .int 9] [] ⟨hx, hb, hml, hown, hts⟩ (m_X4_checkRange l G α β γ z 1 9 (h3)) (va_cwS 3 hts gX4_addOrgan_X4_checkRange rfl rfl rfl (by decide +kernel) ⟨Nat.le_of_ble_eq_true rfl, Nat.le_of_ble_eq_true rfl⟩) hK hN hP rfl hl.1 rfl (Nat.le_of_ble_eq_true rfl) dX4_addOrgan_10 ⟨Nat.zero_le _, Nat.zero_le _⟩ ?_
  refine lv_aload_n hx hb dX4_addOrgan_13 rfl (lv_at hl 0 rfl) ?_
  refine va_get (D := G.1) (ci := 6) (v := .ref (ta G 0 (0))) (C := RX4) (T := TX4) (N := 3) hx hb hts (fun w9 h9 => List.mem_cons_of_mem _ (List.mem_append_left _ (List.mem_append_left _ (List.mem_append_left _ (List.mem_append_left _ (List.mem_append_left _ (List.mem_append_left _ (List.mem_append_right _ (h9))))))))) hown hK hP (0) (cx_C G (z3 α β γ)) rfl 0 (by decide) (hts (.fieldLink RX4 10 "OrganCensus" "town" "LOrganCensus$Town;") (List.mem_of_getElem? (i := 3) rfl)) (fun _ h9 => h9) rfl dX4_addOrgan_14 ?_
  refine va_get (D := G.1) (ci := 5) (v := .int (α 18 0 1)) (C := RX3) (T := TX3) (N := 5) hx hb hts (fun w9 h9 => List.mem_cons_of_mem _ (List.mem_append_left _ (List.mem_append_left _ (List.mem_append_left _ (List.mem_append_left _ (List.mem_append_left _ (List.mem_append_right _ (h9)))))))) hown hK hP (1 + 67 * 0 + (0)) (cx_T G (z3 α β γ) (show 0 < 2 by decide)) rfl 3 (by decide) (hts (.fieldLink RX4 76 "OrganCensus$Town" "organCount" "I") (List.mem_of_getElem? (i := 4) rfl)) (fun _ h9 => h9) rfl dX4_addOrgan_17 ?_
  refine lv_bipush (v := 8) hx hb dX4_addOrgan_20 (by decide) ?_
  refine lv_icmp_lt (tgt := 35) hx hb dX4_addOrgan_22 (by decide) (fun c22 => ?_) (fun c22 => ?_)
  · have n22 := (o_nlt (a := nO) (b := 8) hz.2.2.1 (by decide) (by omega) (by omega)).mp c22; omega
  · have n22 := (mt (o_nlt (a := nO) (b := 8) hz.2.2.1 (by decide) (by omega) (by omega)).mpr) c22
    obtain ⟨sa, hsa⟩ := hE.2.2.1 (79, "no more organs") (by decide)
    exact vx_throwS (own := RX4) (cls := "java/lang/IllegalStateException") (text := "no more organs") (names := ["java/lang/RuntimeException", "java/lang/Exception"]) (A := fun _ => False) hx hb hst hown (by decide +kernel) (by decide +kernel) (hts (.classLink RX4 34 "java/lang/IllegalStateException") (List.mem_of_getElem? (i := 1) rfl)) (hts (.initialized "java/lang/IllegalStateException") (List.mem_of_getElem? (i := 2) rfl)) hsa (vx_hat (fun w9 h9 => hts w9 (List.mem_cons_of_mem _ (List.mem_append_left _ (List.mem_append_left _ (List.mem_append_right _ (h9)))))) (by decide +kernel) hE.use) (by decide +kernel) hE.1 hE.2.1 va_S.rf (hl.1.trans hml.symm) dX4_addOrgan_25 dX4_addOrgan_28 dX4_addOrgan_29 dX4_addOrgan_31 dX4_addOrgan_34 (fun x9 h9 => (ht x9 h9).elim) (by decide) (by decide) (by decide) (by decide) hlocks (fun t9 _ h1 h2 => ⟨(), trivial, rfl, h1, fun q hq _ => h2 q hq⟩) (fun z9 h9 => nomatch h9) (by decide) (by decide)
set_option maxHeartbeats 4000000 in
set_option maxRecDepth 100000 in
theorem mx_X4_setBarrel_o (l : Launch) (hst : l.stackTraces = false) (G : oG) (α β γ : oT) (nS : Nat) (nO : Nat) (nH : Nat) (hz : oOK α nS nO nH) (x : Int32) (y : Int32) (h1 : oIn x nO = false) : vx_Met l yX4_setBarrel wsX4_setBarrel ({ frames := 8, cells := 1, slots := 6, locals := 124 } : Room) (va_Pc [.ref (G.2.1 0), .int x, .int y] (PX G (cw G (z3 α β γ)))) oNo (oXC "java/lang/IndexOutOfBoundsException") 1 6 (fun _ => False) := by
  refine ox_body (cc := cX4_setBarrel) (by decide +kernel) rfl (Nat.le_of_ble_eq_true rfl) ?_
  intro p e s m below meth c ls hx hb hml ht hlocks hown hts hP hK hN hE hl
  have hown : s.vm.findClass RX4 = some m.cls := hown
  have hl : lv_has ls 4 [(0, .ref (G.2.1 0)), (1, .int x), (2, .int y)] := hl
  obtain ⟨hz1, hz2, hz3, hz4, hz5, hz6, hz7⟩ := id hz
  refine lv_aload_n hx hb dX4_setBarrel_0 rfl (lv_at hl 0 rfl) ?_
  refine lv_iload_n hx hb dX4_setBarrel_1 rfl (lv_at hl 1 rfl) ?_
  exact ox_cV (q0 := 0) (ci := 6) [.int x] [] ⟨hx, hb, hml, hown, hts⟩ (mx_X4_checkOrgan_i l hst G α β γ nS nO nH hz x (h1)) (cwV 1 hts gX4_setBarrel_X4_checkOrgan rfl rfl rfl (by decide +kernel) ⟨Nat.le_of_ble_eq_true rfl, Nat.le_of_ble_eq_true rfl⟩) hK hN hP hE rfl rfl (cx_C G (z3 α β γ)) rfl hl.1 rfl (Nat.le_of_ble_eq_true rfl) dX4_setBarrel_2 ⟨Nat.le_of_ble_eq_true rfl, Nat.le_of_ble_eq_true rfl⟩ ht hlocks
set_option maxHeartbeats 4000000 in
set_option maxRecDepth 100000 in
theorem mx_X4_setBarrel_b (l : Launch) (hst : l.stackTraces = false) (G : oG) (α β γ : oT) (nS : Nat) (nO : Nat) (nH : Nat) (hz : oOK α nS nO nH) (x : Int32) (y : Int32) (h1 : oIn x nO = true) (h2 : oBar y = false) : vx_Met l yX4_setBarrel wsX4_setBarrel ({ frames := 6, cells := 1, slots := 6, locals := 82 } : Room) (va_Pc [.ref (G.2.1 0), .int x, .int y] (PX G (cw G (z3 α β γ)))) oNo (oXC "java/lang/IllegalArgumentException") 1 6 (fun _ => False) := by
  refine ox_body (cc := cX4_setBarrel) (by decide +kernel) rfl (Nat.le_of_ble_eq_true rfl) ?_
  intro p e s m below meth c ls hx hb hml ht hlocks hown hts hP hK hN hE hl
  have hown : s.vm.findClass RX4 = some m.cls := hown
  have hl : lv_has ls 4 [(0, .ref (G.2.1 0)), (1, .int x), (2, .int y)] := hl
  obtain ⟨hz1, hz2, hz3, hz4, hz5, hz6, hz7⟩ := id hz
  refine lv_aload_n hx hb dX4_setBarrel_0 rfl (lv_at hl 0 rfl) ?_
  refine lv_iload_n hx hb dX4_setBarrel_1 rfl (lv_at hl 1 rfl) ?_
  refine o_cVv (q0 := 0) (ci := 6) [.int x] [] ⟨hx, hb, hml, hown, hts⟩ (m_X4_checkOrgan l G α β γ nS nO nH hz x (h1)) (cwV 1 hts gX4_setBarrel_X4_checkOrgan rfl rfl rfl (by decide +kernel) ⟨Nat.le_of_ble_eq_true rfl, Nat.le_of_ble_eq_true rfl⟩) hK hN hP rfl rfl (cx_C G (z3 α β γ)) rfl hl.1 rfl (Nat.le_of_ble_eq_true rfl) dX4_setBarrel_2 ⟨Nat.zero_le _, Nat.zero_le _⟩ ?_
  refine lv_iload_n hx hb dX4_setBarrel_5 rfl (lv_at hl 2 rfl) ?_
  refine o_cSi [.int y] [] ⟨hx, hb, hml, hown, hts⟩ (m_X4_isBarrel l G (cw G (z3 α β γ)) y) (va_cwS 1 hts gX4_setBarrel_X4_isBarrel rfl rfl rfl (by decide +kernel) ⟨Nat.le_of_ble_eq_true rfl, Nat.le_of_ble_eq_true rfl⟩) hK hN hP rfl hl.1 rfl (Nat.le_of_ble_eq_true rfl) dX4_setBarrel_6 ⟨Nat.zero_le _, Nat.zero_le _⟩ ?_
  refine lv_if_ne (tgt := 22) hx hb dX4_setBarrel_9 (by decide) (fun c9 => ?_) (fun c9 => ?_)
  · have c9 := bI_ne.mp c9; exact absurd (h2.symm.trans c9) (by decide)
  · have c9 := bI_eq.mp c9
    obtain ⟨sa, hsa⟩ := hE.2.2.1 (94, "not a barrel") (by decide)
    exact vx_throwS (own := RX4) (cls := "java/lang/IllegalArgumentException") (text := "not a barrel") (names := ["java/lang/RuntimeException", "java/lang/Exception"]) (A := fun _ => False) hx hb hst hown (by decide +kernel) (by decide +kernel) (hts (.classLink RX4 92 "java/lang/IllegalArgumentException") (List.mem_of_getElem? (i := 1) rfl)) (hts (.initialized "java/lang/IllegalArgumentException") (List.mem_of_getElem? (i := 2) rfl)) hsa (vx_hat (fun w9 h9 => hts w9 (List.mem_cons_of_mem _ (List.mem_append_left _ (List.mem_append_right _ (h9))))) (by decide +kernel) hE.use) (by decide +kernel) hE.1 hE.2.1 va_S.rf (hl.1.trans hml.symm) dX4_setBarrel_12 dX4_setBarrel_15 dX4_setBarrel_16 dX4_setBarrel_18 dX4_setBarrel_21 (fun x9 h9 => (ht x9 h9).elim) (by decide) (by decide) (by decide) (by decide) hlocks (fun t9 _ h1 h2 => ⟨(), trivial, rfl, h1, fun q hq _ => h2 q hq⟩) (fun z9 h9 => nomatch h9) (by decide) (by decide)
set_option maxHeartbeats 4000000 in
set_option maxRecDepth 100000 in
theorem mx_X4_send_o (l : Launch) (hst : l.stackTraces = false) (G : oG) (α β γ : oT) (nS : Nat) (nO : Nat) (nH : Nat) (hz : oOK α nS nO nH) (x : Int32) (y : Int32) (z : Int32) (h1 : oIn x nO = false) : vx_Met l yX4_send wsX4_send ({ frames := 8, cells := 1, slots := 6, locals := 124 } : Room) (va_Pc [.ref (G.2.1 0), .int x, .int y, .int z] (PX G (cw G (z3 α β γ)))) oNo (oXC "java/lang/IndexOutOfBoundsException") 1 6 (fun _ => False) := by
  refine ox_body (cc := cX4_send) (by decide +kernel) rfl (Nat.le_of_ble_eq_true rfl) ?_
  intro p e s m below meth c ls hx hb hml ht hlocks hown hts hP hK hN hE hl
  have hown : s.vm.findClass RX4 = some m.cls := hown
  have hl : lv_has ls 6 [(0, .ref (G.2.1 0)), (1, .int x), (2, .int y), (3, .int z)] := hl
  obtain ⟨hz1, hz2, hz3, hz4, hz5, hz6, hz7⟩ := id hz
  refine lv_aload_n hx hb dX4_send_0 rfl (lv_at hl 0 rfl) ?_
  refine lv_iload_n hx hb dX4_send_1 rfl (lv_at hl 1 rfl) ?_
  exact ox_cV (q0 := 0) (ci := 6) [.int x] [] ⟨hx, hb, hml, hown, hts⟩ (mx_X4_checkOrgan_i l hst G α β γ nS nO nH hz x (h1)) (cwV 1 hts gX4_send_X4_checkOrgan rfl rfl rfl (by decide +kernel) ⟨Nat.le_of_ble_eq_true rfl, Nat.le_of_ble_eq_true rfl⟩) hK hN hP hE rfl rfl (cx_C G (z3 α β γ)) rfl hl.1 rfl (Nat.le_of_ble_eq_true rfl) dX4_send_2 ⟨Nat.le_of_ble_eq_true rfl, Nat.le_of_ble_eq_true rfl⟩ ht hlocks
set_option maxHeartbeats 4000000 in
set_option maxRecDepth 100000 in
theorem mx_X4_send_a (l : Launch) (hst : l.stackTraces = false) (G : oG) (α β γ : oT) (nS : Nat) (nO : Nat) (nH : Nat) (hz : oOK α nS nO nH) (x : Int32) (y : Int32) (z : Int32) (h1 : oIn x nO = true) (h2 : oIn y nS = false) : vx_Met l yX4_send wsX4_send ({ frames := 9, cells := 1, slots := 6, locals := 146 } : Room) (va_Pc [.ref (G.2.1 0), .int x, .int y, .int z] (PX G (cw G (z3 α β γ)))) oNo (oXC "java/lang/IndexOutOfBoundsException") 1 6 (fun _ => False) := by
  refine ox_body (cc := cX4_send) (by decide +kernel) rfl (Nat.le_of_ble_eq_true rfl) ?_
  intro p e s m below meth c ls hx hb hml ht hlocks hown hts hP hK hN hE hl
  have hown : s.vm.findClass RX4 = some m.cls := hown
  have hl : lv_has ls 6 [(0, .ref (G.2.1 0)), (1, .int x), (2, .int y), (3, .int z)] := hl
  obtain ⟨hz1, hz2, hz3, hz4, hz5, hz6, hz7⟩ := id hz
  refine lv_aload_n hx hb dX4_send_0 rfl (lv_at hl 0 rfl) ?_
  refine lv_iload_n hx hb dX4_send_1 rfl (lv_at hl 1 rfl) ?_
  refine o_cVv (q0 := 0) (ci := 6) [.int x] [] ⟨hx, hb, hml, hown, hts⟩ (m_X4_checkOrgan l G α β γ nS nO nH hz x (h1)) (cwV 1 hts gX4_send_X4_checkOrgan rfl rfl rfl (by decide +kernel) ⟨Nat.le_of_ble_eq_true rfl, Nat.le_of_ble_eq_true rfl⟩) hK hN hP rfl rfl (cx_C G (z3 α β γ)) rfl hl.1 rfl (Nat.le_of_ble_eq_true rfl) dX4_send_2 ⟨Nat.zero_le _, Nat.zero_le _⟩ ?_
  refine lv_aload_n hx hb dX4_send_5 rfl (lv_at hl 0 rfl) ?_
  refine lv_iload_n hx hb dX4_send_6 rfl (lv_at hl 2 rfl) ?_
  refine lv_iload_n hx hb dX4_send_7 rfl (lv_at hl 3 rfl) ?_
  exact ox_cV (q0 := 0) (ci := 6) [.int y, .int z] [] ⟨hx, hb, hml, hown, hts⟩ (mx_X4_checkPitch_a l hst G α β γ nS nO nH hz y z (h2)) (cwV 2 hts gX4_send_X4_checkPitch rfl rfl rfl (by decide +kernel) ⟨Nat.le_of_ble_eq_true rfl, Nat.le_of_ble_eq_true rfl⟩) hK hN hP hE rfl rfl (cx_C G (z3 α β γ)) rfl hl.1 rfl (Nat.le_of_ble_eq_true rfl) dX4_send_8 ⟨Nat.le_of_ble_eq_true rfl, Nat.le_of_ble_eq_true rfl⟩ ht hlocks
set_option maxHeartbeats 4000000 in
set_option maxRecDepth 100000 in
theorem mx_X4_send_b (l : Launch) (hst : l.stackTraces = false) (G : oG) (α β γ : oT) (nS : Nat) (nO : Nat) (nH : Nat) (hz : oOK α nS nO nH) (x : Int32) (y : Int32) (z : Int32) (h1 : oIn x nO = true) (h2 : oIn y nS = true) (h3 : oIn z (oNp α (oN y)) = false) : vx_Met l yX4_send wsX4_send ({ frames := 8, cells := 1, slots := 6, locals := 125 } : Room) (va_Pc [.ref (G.2.1 0), .int x, .int y, .int z] (PX G (cw G (z3 α β γ)))) oNo (oXC "java/lang/IndexOutOfBoundsException") 1 6 (fun _ => False) := by
  refine ox_body (cc := cX4_send) (by decide +kernel) rfl (Nat.le_of_ble_eq_true rfl) ?_
  intro p e s m below meth c ls hx hb hml ht hlocks hown hts hP hK hN hE hl
  have hown : s.vm.findClass RX4 = some m.cls := hown
  have hl : lv_has ls 6 [(0, .ref (G.2.1 0)), (1, .int x), (2, .int y), (3, .int z)] := hl
  obtain ⟨hz1, hz2, hz3, hz4, hz5, hz6, hz7⟩ := id hz
  refine lv_aload_n hx hb dX4_send_0 rfl (lv_at hl 0 rfl) ?_
  refine lv_iload_n hx hb dX4_send_1 rfl (lv_at hl 1 rfl) ?_
  refine o_cVv (q0 := 0) (ci := 6) [.int x] [] ⟨hx, hb, hml, hown, hts⟩ (m_X4_checkOrgan l G α β γ nS nO nH hz x (h1)) (cwV 1 hts gX4_send_X4_checkOrgan rfl rfl rfl (by decide +kernel) ⟨Nat.le_of_ble_eq_true rfl, Nat.le_of_ble_eq_true rfl⟩) hK hN hP rfl rfl (cx_C G (z3 α β γ)) rfl hl.1 rfl (Nat.le_of_ble_eq_true rfl) dX4_send_2 ⟨Nat.zero_le _, Nat.zero_le _⟩ ?_
  refine lv_aload_n hx hb dX4_send_5 rfl (lv_at hl 0 rfl) ?_
  refine lv_iload_n hx hb dX4_send_6 rfl (lv_at hl 2 rfl) ?_
  refine lv_iload_n hx hb dX4_send_7 rfl (lv_at hl 3 rfl) ?_
  exact ox_cV (q0 := 0) (ci := 6) [.int y, .int z] [] ⟨hx, hb, hml, hown, hts⟩ (mx_X4_checkPitch_b l hst G α β γ nS nO nH hz y z (h2) (h3)) (cwV 2 hts gX4_send_X4_checkPitch rfl rfl rfl (by decide +kernel) ⟨Nat.le_of_ble_eq_true rfl, Nat.le_of_ble_eq_true rfl⟩) hK hN hP hE rfl rfl (cx_C G (z3 α β γ)) rfl hl.1 rfl (Nat.le_of_ble_eq_true rfl) dX4_send_8 ⟨Nat.le_of_ble_eq_true rfl, Nat.le_of_ble_eq_true rfl⟩ ht hlocks
set_option maxHeartbeats 4000000 in
set_option maxRecDepth 100000 in
theorem mx_X4_send_n (l : Launch) (hst : l.stackTraces = false) (G : oG) (α β γ : oT) (nS : Nat) (nO : Nat) (nH : Nat) (hz : oOK α nS nO nH) (x : Int32) (y : Int32) (z : Int32) (h1 : oIn x nO = true) (h2 : oIn y nS = true) (h3 : oIn z (oNp α (oN y)) = true) (h4 : ¬ α 9 (oN x) (oN y) ≤ 0) : vx_Met l yX4_send wsX4_send ({ frames := 6, cells := 1, slots := 6, locals := 82 } : Room) (va_Pc [.ref (G.2.1 0), .int x, .int y, .int z] (PX G (cw G (z3 α β γ)))) oNo (oXC "java/lang/IllegalStateException") 1 6 (fun _ => False) := by
  refine ox_body (cc := cX4_send) (by decide +kernel) rfl (Nat.le_of_ble_eq_true rfl) ?_
  intro p e s m below meth c ls hx hb hml ht hlocks hown hts hP hK hN hE hl
  have hown : s.vm.findClass RX4 = some m.cls := hown
  have hl : lv_has ls 6 [(0, .ref (G.2.1 0)), (1, .int x), (2, .int y), (3, .int z)] := hl
  obtain ⟨hz1, hz2, hz3, hz4, hz5, hz6, hz7⟩ := id hz
  have n1 := oIn_lt (by omega) h1
  have n2 := oIn_lt (by omega) h2
  refine lv_aload_n hx hb dX4_send_0 rfl (lv_at hl 0 rfl) ?_
  refine lv_iload_n hx hb dX4_send_1 rfl (lv_at hl 1 rfl) ?_
  refine o_cVv (q0 := 0) (ci := 6) [.int x] [] ⟨hx, hb, hml, hown, hts⟩ (m_X4_checkOrgan l G α β γ nS nO nH hz x (h1)) (cwV 1 hts gX4_send_X4_checkOrgan rfl rfl rfl (by decide +kernel) ⟨Nat.le_of_ble_eq_true rfl, Nat.le_of_ble_eq_true rfl⟩) hK hN hP rfl rfl (cx_C G (z3 α β γ)) rfl hl.1 rfl (Nat.le_of_ble_eq_true rfl) dX4_send_2 ⟨Nat.zero_le _, Nat.zero_le _⟩ ?_
  refine lv_aload_n hx hb dX4_send_5 rfl (lv_at hl 0 rfl) ?_
  refine lv_iload_n hx hb dX4_send_6 rfl (lv_at hl 2 rfl) ?_
  refine lv_iload_n hx hb dX4_send_7 rfl (lv_at hl 3 rfl) ?_
  refine o_cVv (q0 := 0) (ci := 6) [.int y, .int z] [] ⟨hx, hb, hml, hown, hts⟩ (m_X4_checkPitch l G α β γ nS nO nH hz y z (h2) (h3)) (cwV 2 hts gX4_send_X4_checkPitch rfl rfl rfl (by decide +kernel) ⟨Nat.le_of_ble_eq_true rfl, Nat.le_of_ble_eq_true rfl⟩) hK hN hP rfl rfl (cx_C G (z3 α β γ)) rfl hl.1 rfl (Nat.le_of_ble_eq_true rfl) dX4_send_8 ⟨Nat.zero_le _, Nat.zero_le _⟩ ?_
  refine lv_aload_n hx hb dX4_send_11 rfl (lv_at hl 0 rfl) ?_
  refine va_get (D := G.1) (ci := 6) (v := .ref (ta G 0 (0))) (C := RX4) (T := TX4) (N := 3) hx hb hts (fun w9 h9 => List.mem_cons_of_mem _ (List.mem_append_left _ (List.mem_append_left _ (List.mem_append_left _ (List.mem_append_left _ (List.mem_append_left _ (List.mem_append_right _ (h9)))))))) hown hK hP (0) (cx_C G (z3 α β γ)) rfl 0 (by decide) (hts (.fieldLink RX4 10 "OrganCensus" "town" "LOrganCensus$Town;") (List.mem_of_getElem? (i := 3) rfl)) (fun _ h9 => h9) rfl dX4_send_12 ?_
  refine va_get (D := G.1) (ci := 5) (v := .ref (ta G 0 (2))) (C := RX3) (T := TX3) (N := 5) hx hb hts (fun w9 h9 => List.mem_cons_of_mem _ (List.mem_append_left _ (List.mem_append_left _ (List.mem_append_left _ (List.mem_append_left _ (List.mem_append_right _ (h9))))))) hown hK hP (1 + 67 * 0 + (0)) (cx_T G (z3 α β γ) (show 0 < 2 by decide)) rfl 1 (by decide) (hts (.fieldLink RX4 97 "OrganCensus$Town" "organs" "[LOrganCensus$Organ;") (List.mem_of_getElem? (i := 4) rfl)) (fun _ h9 => h9) rfl dX4_send_15 ?_
  refine lv_iload_n hx hb dX4_send_18 rfl (lv_at hl 1 rfl) ?_
  refine o_aald (k := oN x) (C := RX0) hx hb hK hP (1 + 67 * 0 + (2)) 2 (cx_OA G (z3 α β γ) (show 0 < 2 by decide)) rfl (oIn_x h1) (by omega) (by decide) rfl dX4_send_19 ?_
  refine lv_astore (lv' := [(4, .ref (ta G 0 (27 + 5 * (oN x)))), (0, .ref (G.2.1 0)), (1, .int x), (2, .int y), (3, .int z)]) hx hb dX4_send_20 hl (by decide) rfl (fun ls hl => ?_)
  refine lv_aload hx hb dX4_send_22 (lv_at hl 0 rfl) ?_
  refine va_get (D := G.1) (ci := 2) (v := .ref (ta G 0 (31 + 5 * (oN x)))) (C := RX0) (T := TX0) (N := 12) hx hb hts (fun w9 h9 => List.mem_cons_of_mem _ (List.mem_append_left _ (List.mem_append_left _ (List.mem_append_left _ (List.mem_append_right _ (h9)))))) hown hK hP (1 + 67 * 0 + (27 + 5 * (oN x))) (cx_O G (z3 α β γ) (show 0 < 2 by decide) (by omega)) rfl 3 (by decide) (hts (.fieldLink RX4 109 "OrganCensus$Organ" "banishedHours" "[I") (List.mem_of_getElem? (i := 5) rfl)) (fun _ h9 => h9) rfl dX4_send_24 ?_
  refine lv_iload_n hx hb dX4_send_27 rfl (lv_at hl 3 rfl) ?_
  refine o_iald (k := oN y) hx hb hK hP (1 + 67 * 0 + (31 + 5 * (oN x))) 0 (cx_Ob G (z3 α β γ) (show 0 < 2 by decide) (by omega)) rfl (oIn_x h2) (by omega) (by decide) dX4_send_28 ?_
  refine lv_if_le (tgt := 42) hx hb dX4_send_29 (by decide) (fun c29 => ?_) (fun c29 => ?_)
  · exact absurd c29 h4
  · obtain ⟨sa, hsa⟩ := hE.2.2.1 (112, "banished from this street") (by decide)
    exact vx_throwS (own := RX4) (cls := "java/lang/IllegalStateException") (text := "banished from this street") (names := ["java/lang/RuntimeException", "java/lang/Exception"]) (A := fun _ => False) hx hb hst hown (by decide +kernel) (by decide +kernel) (hts (.classLink RX4 34 "java/lang/IllegalStateException") (List.mem_of_getElem? (i := 1) rfl)) (hts (.initialized "java/lang/IllegalStateException") (List.mem_of_getElem? (i := 2) rfl)) hsa (vx_hat (fun w9 h9 => hts w9 (List.mem_cons_of_mem _ (List.mem_append_left _ (List.mem_append_right _ (h9))))) (by decide +kernel) hE.use) (by decide +kernel) hE.1 hE.2.1 va_S.rf (hl.1.trans hml.symm) dX4_send_32 dX4_send_35 dX4_send_36 dX4_send_38 dX4_send_41 (fun x9 h9 => (ht x9 h9).elim) (by decide) (by decide) (by decide) (by decide) hlocks (fun t9 _ h1 h2 => ⟨(), trivial, rfl, h1, fun q hq _ => h2 q hq⟩) (fun z9 h9 => nomatch h9) (by decide) (by decide)
set_option maxHeartbeats 4000000 in
set_option maxRecDepth 100000 in
theorem mx_X4_organ_o (l : Launch) (hst : l.stackTraces = false) (G : oG) (α β γ : oT) (nS : Nat) (nO : Nat) (nH : Nat) (hz : oOK α nS nO nH) (x : Int32) (y : Int32) (h1 : oIn x nO = false) : vx_Met l yX4_organ wsX4_organ ({ frames := 8, cells := 1, slots := 6, locals := 124 } : Room) (va_Pc [.ref (G.2.1 0), .int x, .int y] (PX G (cw G (z3 α β γ)))) oNo (oXC "java/lang/IndexOutOfBoundsException") 1 6 (fun _ => False) := by
  refine ox_body (cc := cX4_organ) (by decide +kernel) rfl (Nat.le_of_ble_eq_true rfl) ?_
  intro p e s m below meth c ls hx hb hml ht hlocks hown hts hP hK hN hE hl
  have hown : s.vm.findClass RX4 = some m.cls := hown
  have hl : lv_has ls 3 [(0, .ref (G.2.1 0)), (1, .int x), (2, .int y)] := hl
  obtain ⟨hz1, hz2, hz3, hz4, hz5, hz6, hz7⟩ := id hz
  refine lv_aload_n hx hb dX4_organ_0 rfl (lv_at hl 0 rfl) ?_
  refine lv_iload_n hx hb dX4_organ_1 rfl (lv_at hl 1 rfl) ?_
  exact ox_cV (q0 := 0) (ci := 6) [.int x] [] ⟨hx, hb, hml, hown, hts⟩ (mx_X4_checkOrgan_i l hst G α β γ nS nO nH hz x (h1)) (cwV 1 hts gX4_organ_X4_checkOrgan rfl rfl rfl (by decide +kernel) ⟨Nat.le_of_ble_eq_true rfl, Nat.le_of_ble_eq_true rfl⟩) hK hN hP hE rfl rfl (cx_C G (z3 α β γ)) rfl hl.1 rfl (Nat.le_of_ble_eq_true rfl) dX4_organ_2 ⟨Nat.le_of_ble_eq_true rfl, Nat.le_of_ble_eq_true rfl⟩ ht hlocks
set_option maxHeartbeats 4000000 in
set_option maxRecDepth 100000 in
theorem mx_X4_organ_w (l : Launch) (hst : l.stackTraces = false) (G : oG) (α β γ : oT) (nS : Nat) (nO : Nat) (nH : Nat) (hz : oOK α nS nO nH) (x : Int32) (y : Int32) (h1 : oIn x nO = true) (h2 : oIn y 11 = false) : vx_Met l yX4_organ wsX4_organ ({ frames := 7, cells := 1, slots := 6, locals := 103 } : Room) (va_Pc [.ref (G.2.1 0), .int x, .int y] (PX G (cw G (z3 α β γ)))) oNo (oXC "java/lang/IndexOutOfBoundsException") 1 6 (fun _ => False) := by
  refine ox_body (cc := cX4_organ) (by decide +kernel) rfl (Nat.le_of_ble_eq_true rfl) ?_
  intro p e s m below meth c ls hx hb hml ht hlocks hown hts hP hK hN hE hl
  have hown : s.vm.findClass RX4 = some m.cls := hown
  have hl : lv_has ls 3 [(0, .ref (G.2.1 0)), (1, .int x), (2, .int y)] := hl
  obtain ⟨hz1, hz2, hz3, hz4, hz5, hz6, hz7⟩ := id hz
  refine lv_aload_n hx hb dX4_organ_0 rfl (lv_at hl 0 rfl) ?_
  refine lv_iload_n hx hb dX4_organ_1 rfl (lv_at hl 1 rfl) ?_
  refine o_cVv (q0 := 0) (ci := 6) [.int x] [] ⟨hx, hb, hml, hown, hts⟩ (m_X4_checkOrgan l G α β γ nS nO nH hz x (h1)) (cwV 1 hts gX4_organ_X4_checkOrgan rfl rfl rfl (by decide +kernel) ⟨Nat.le_of_ble_eq_true rfl, Nat.le_of_ble_eq_true rfl⟩) hK hN hP rfl rfl (cx_C G (z3 α β γ)) rfl hl.1 rfl (Nat.le_of_ble_eq_true rfl) dX4_organ_2 ⟨Nat.zero_le _, Nat.zero_le _⟩ ?_
  refine lv_iload_n hx hb dX4_organ_5 rfl (lv_at hl 2 rfl) ?_
  refine lv_bipush (v := 11) hx hb dX4_organ_6 (by decide) ?_
  exact ox_cS [.int y, .int 11] [] ⟨hx, hb, hml, hown, hts⟩ (mx_X4_checkIndex_i l hst G α β γ y 11 11 ((by decide)) (h2)) (va_cwS 2 hts gX4_organ_X4_checkIndex rfl rfl rfl (by decide +kernel) ⟨Nat.le_of_ble_eq_true rfl, Nat.le_of_ble_eq_true rfl⟩) hK hN hP hE rfl hl.1 rfl (Nat.le_of_ble_eq_true rfl) dX4_organ_8 ⟨Nat.le_of_ble_eq_true rfl, Nat.le_of_ble_eq_true rfl⟩ ht hlocks
set_option maxHeartbeats 4000000 in
set_option maxRecDepth 100000 in
theorem mx_X4_banished_o (l : Launch) (hst : l.stackTraces = false) (G : oG) (α β γ : oT) (nS : Nat) (nO : Nat) (nH : Nat) (hz : oOK α nS nO nH) (x : Int32) (y : Int32) (h1 : oIn x nO = false) : vx_Met l yX4_banished wsX4_banished ({ frames := 8, cells := 1, slots := 6, locals := 124 } : Room) (va_Pc [.ref (G.2.1 0), .int x, .int y] (PX G (cw G (z3 α β γ)))) oNo (oXC "java/lang/IndexOutOfBoundsException") 1 6 (fun _ => False) := by
  refine ox_body (cc := cX4_banished) (by decide +kernel) rfl (Nat.le_of_ble_eq_true rfl) ?_
  intro p e s m below meth c ls hx hb hml ht hlocks hown hts hP hK hN hE hl
  have hown : s.vm.findClass RX4 = some m.cls := hown
  have hl : lv_has ls 3 [(0, .ref (G.2.1 0)), (1, .int x), (2, .int y)] := hl
  obtain ⟨hz1, hz2, hz3, hz4, hz5, hz6, hz7⟩ := id hz
  refine lv_aload_n hx hb dX4_banished_0 rfl (lv_at hl 0 rfl) ?_
  refine lv_iload_n hx hb dX4_banished_1 rfl (lv_at hl 1 rfl) ?_
  exact ox_cV (q0 := 0) (ci := 6) [.int x] [] ⟨hx, hb, hml, hown, hts⟩ (mx_X4_checkOrgan_i l hst G α β γ nS nO nH hz x (h1)) (cwV 1 hts gX4_banished_X4_checkOrgan rfl rfl rfl (by decide +kernel) ⟨Nat.le_of_ble_eq_true rfl, Nat.le_of_ble_eq_true rfl⟩) hK hN hP hE rfl rfl (cx_C G (z3 α β γ)) rfl hl.1 rfl (Nat.le_of_ble_eq_true rfl) dX4_banished_2 ⟨Nat.le_of_ble_eq_true rfl, Nat.le_of_ble_eq_true rfl⟩ ht hlocks
set_option maxHeartbeats 4000000 in
set_option maxRecDepth 100000 in
theorem mx_X4_banished_s (l : Launch) (hst : l.stackTraces = false) (G : oG) (α β γ : oT) (nS : Nat) (nO : Nat) (nH : Nat) (hz : oOK α nS nO nH) (x : Int32) (y : Int32) (h1 : oIn x nO = true) (h2 : oIn y nS = false) : vx_Met l yX4_banished wsX4_banished ({ frames := 8, cells := 1, slots := 6, locals := 124 } : Room) (va_Pc [.ref (G.2.1 0), .int x, .int y] (PX G (cw G (z3 α β γ)))) oNo (oXC "java/lang/IndexOutOfBoundsException") 1 6 (fun _ => False) := by
  refine ox_body (cc := cX4_banished) (by decide +kernel) rfl (Nat.le_of_ble_eq_true rfl) ?_
  intro p e s m below meth c ls hx hb hml ht hlocks hown hts hP hK hN hE hl
  have hown : s.vm.findClass RX4 = some m.cls := hown
  have hl : lv_has ls 3 [(0, .ref (G.2.1 0)), (1, .int x), (2, .int y)] := hl
  obtain ⟨hz1, hz2, hz3, hz4, hz5, hz6, hz7⟩ := id hz
  refine lv_aload_n hx hb dX4_banished_0 rfl (lv_at hl 0 rfl) ?_
  refine lv_iload_n hx hb dX4_banished_1 rfl (lv_at hl 1 rfl) ?_
  refine o_cVv (q0 := 0) (ci := 6) [.int x] [] ⟨hx, hb, hml, hown, hts⟩ (m_X4_checkOrgan l G α β γ nS nO nH hz x (h1)) (cwV 1 hts gX4_banished_X4_checkOrgan rfl rfl rfl (by decide +kernel) ⟨Nat.le_of_ble_eq_true rfl, Nat.le_of_ble_eq_true rfl⟩) hK hN hP rfl rfl (cx_C G (z3 α β γ)) rfl hl.1 rfl (Nat.le_of_ble_eq_true rfl) dX4_banished_2 ⟨Nat.zero_le _, Nat.zero_le _⟩ ?_
  refine lv_aload_n hx hb dX4_banished_5 rfl (lv_at hl 0 rfl) ?_
  refine lv_iload_n hx hb dX4_banished_6 rfl (lv_at hl 2 rfl) ?_
  exact ox_cV (q0 := 0) (ci := 6) [.int y] [] ⟨hx, hb, hml, hown, hts⟩ (mx_X4_checkStreet_i l hst G α β γ nS nO nH hz y (h2)) (cwV 1 hts gX4_banished_X4_checkStreet rfl rfl rfl (by decide +kernel) ⟨Nat.le_of_ble_eq_true rfl, Nat.le_of_ble_eq_true rfl⟩) hK hN hP hE rfl rfl (cx_C G (z3 α β γ)) rfl hl.1 rfl (Nat.le_of_ble_eq_true rfl) dX4_banished_7 ⟨Nat.le_of_ble_eq_true rfl, Nat.le_of_ble_eq_true rfl⟩ ht hlocks
set_option maxHeartbeats 4000000 in
set_option maxRecDepth 100000 in
theorem mx_X4_heard_a (l : Launch) (hst : l.stackTraces = false) (G : oG) (α β γ : oT) (nS : Nat) (nO : Nat) (nH : Nat) (hz : oOK α nS nO nH) (x : Int32) (y : Int32) (h1 : oIn x nS = false) : vx_Met l yX4_heard wsX4_heard ({ frames := 9, cells := 1, slots := 6, locals := 146 } : Room) (va_Pc [.ref (G.2.1 0), .int x, .int y] (PX G (cw G (z3 α β γ)))) oNo (oXC "java/lang/IndexOutOfBoundsException") 1 6 (fun _ => False) := by
  refine ox_body (cc := cX4_heard) (by decide +kernel) rfl (Nat.le_of_ble_eq_true rfl) ?_
  intro p e s m below meth c ls hx hb hml ht hlocks hown hts hP hK hN hE hl
  have hown : s.vm.findClass RX4 = some m.cls := hown
  have hl : lv_has ls 3 [(0, .ref (G.2.1 0)), (1, .int x), (2, .int y)] := hl
  obtain ⟨hz1, hz2, hz3, hz4, hz5, hz6, hz7⟩ := id hz
  refine lv_aload_n hx hb dX4_heard_0 rfl (lv_at hl 0 rfl) ?_
  refine lv_iload_n hx hb dX4_heard_1 rfl (lv_at hl 1 rfl) ?_
  refine lv_iload_n hx hb dX4_heard_2 rfl (lv_at hl 2 rfl) ?_
  exact ox_cV (q0 := 0) (ci := 6) [.int x, .int y] [] ⟨hx, hb, hml, hown, hts⟩ (mx_X4_checkPitch_a l hst G α β γ nS nO nH hz x y (h1)) (cwV 2 hts gX4_heard_X4_checkPitch rfl rfl rfl (by decide +kernel) ⟨Nat.le_of_ble_eq_true rfl, Nat.le_of_ble_eq_true rfl⟩) hK hN hP hE rfl rfl (cx_C G (z3 α β γ)) rfl hl.1 rfl (Nat.le_of_ble_eq_true rfl) dX4_heard_3 ⟨Nat.le_of_ble_eq_true rfl, Nat.le_of_ble_eq_true rfl⟩ ht hlocks
set_option maxHeartbeats 4000000 in
set_option maxRecDepth 100000 in
theorem mx_X4_heard_b (l : Launch) (hst : l.stackTraces = false) (G : oG) (α β γ : oT) (nS : Nat) (nO : Nat) (nH : Nat) (hz : oOK α nS nO nH) (x : Int32) (y : Int32) (h1 : oIn x nS = true) (h2 : oIn y (oNp α (oN x)) = false) : vx_Met l yX4_heard wsX4_heard ({ frames := 8, cells := 1, slots := 6, locals := 125 } : Room) (va_Pc [.ref (G.2.1 0), .int x, .int y] (PX G (cw G (z3 α β γ)))) oNo (oXC "java/lang/IndexOutOfBoundsException") 1 6 (fun _ => False) := by
  refine ox_body (cc := cX4_heard) (by decide +kernel) rfl (Nat.le_of_ble_eq_true rfl) ?_
  intro p e s m below meth c ls hx hb hml ht hlocks hown hts hP hK hN hE hl
  have hown : s.vm.findClass RX4 = some m.cls := hown
  have hl : lv_has ls 3 [(0, .ref (G.2.1 0)), (1, .int x), (2, .int y)] := hl
  obtain ⟨hz1, hz2, hz3, hz4, hz5, hz6, hz7⟩ := id hz
  refine lv_aload_n hx hb dX4_heard_0 rfl (lv_at hl 0 rfl) ?_
  refine lv_iload_n hx hb dX4_heard_1 rfl (lv_at hl 1 rfl) ?_
  refine lv_iload_n hx hb dX4_heard_2 rfl (lv_at hl 2 rfl) ?_
  exact ox_cV (q0 := 0) (ci := 6) [.int x, .int y] [] ⟨hx, hb, hml, hown, hts⟩ (mx_X4_checkPitch_b l hst G α β γ nS nO nH hz x y (h1) (h2)) (cwV 2 hts gX4_heard_X4_checkPitch rfl rfl rfl (by decide +kernel) ⟨Nat.le_of_ble_eq_true rfl, Nat.le_of_ble_eq_true rfl⟩) hK hN hP hE rfl rfl (cx_C G (z3 α β γ)) rfl hl.1 rfl (Nat.le_of_ble_eq_true rfl) dX4_heard_3 ⟨Nat.le_of_ble_eq_true rfl, Nat.le_of_ble_eq_true rfl⟩ ht hlocks
set_option maxHeartbeats 4000000 in
set_option maxRecDepth 100000 in
theorem mx_X4_pass_r (l : Launch) (hst : l.stackTraces = false) (G : oG) (α β γ : oT) (nS : Nat) (nO : Nat) (nH : Nat) (hz : oOK α nS nO nH) (x : Int32) (h1 : oRg x 1 100 = false) : vx_Met l yX4_pass wsX4_pass ({ frames := 7, cells := 1, slots := 6, locals := 104 } : Room) (va_Pc [.ref (G.2.1 0), .int x] (PX G (cw G (z3 α β γ)))) oNo (oXC "java/lang/IllegalArgumentException") 1 6 (fun _ => False) := by
  refine ox_body (cc := cX4_pass) (by decide +kernel) rfl (Nat.le_of_ble_eq_true rfl) ?_
  intro p e s m below meth c ls hx hb hml ht hlocks hown hts hP hK hN hE hl
  have hown : s.vm.findClass RX4 = some m.cls := hown
  have hl : lv_has ls 4 [(0, .ref (G.2.1 0)), (1, .int x)] := hl
  obtain ⟨hz1, hz2, hz3, hz4, hz5, hz6, hz7⟩ := id hz
  refine lv_iload_n hx hb dX4_pass_0 rfl (lv_at hl 1 rfl) ?_
  refine lv_iconst (v := 1) hx hb dX4_pass_1 (by decide) ?_
  refine lv_bipush (v := 100) hx hb dX4_pass_2 (by decide) ?_
  exact ox_cS [.int x, .int 1, .int 100] [] ⟨hx, hb, hml, hown, hts⟩ (mx_X4_checkRange_r l hst G α β γ x 1 100 (h1)) (va_cwS 3 hts gX4_pass_X4_checkRange rfl rfl rfl (by decide +kernel) ⟨Nat.le_of_ble_eq_true rfl, Nat.le_of_ble_eq_true rfl⟩) hK hN hP hE rfl hl.1 rfl (Nat.le_of_ble_eq_true rfl) dX4_pass_4 ⟨Nat.le_of_ble_eq_true rfl, Nat.le_of_ble_eq_true rfl⟩ ht hlocks
set_option maxHeartbeats 4000000 in
set_option maxRecDepth 100000 in
theorem mx_X4_count_w (l : Launch) (hst : l.stackTraces = false) (G : oG) (α β γ : oT) (nS : Nat) (nO : Nat) (nH : Nat) (hz : oOK α nS nO nH) (x : Int32) (h1 : oIn x 8 = false) : vx_Met l yX4_count wsX4_count ({ frames := 7, cells := 1, slots := 6, locals := 103 } : Room) (va_Pc [.ref (G.2.1 0), .int x] (PX G (cw G (z3 α β γ)))) oNo (oXC "java/lang/IndexOutOfBoundsException") 1 6 (fun _ => False) := by
  refine ox_body (cc := cX4_count) (by decide +kernel) rfl (Nat.le_of_ble_eq_true rfl) ?_
  intro p e s m below meth c ls hx hb hml ht hlocks hown hts hP hK hN hE hl
  have hown : s.vm.findClass RX4 = some m.cls := hown
  have hl : lv_has ls 2 [(0, .ref (G.2.1 0)), (1, .int x)] := hl
  obtain ⟨hz1, hz2, hz3, hz4, hz5, hz6, hz7⟩ := id hz
  refine lv_iload_n hx hb dX4_count_0 rfl (lv_at hl 1 rfl) ?_
  refine lv_bipush (v := 8) hx hb dX4_count_1 (by decide) ?_
  exact ox_cS [.int x, .int 8] [] ⟨hx, hb, hml, hown, hts⟩ (mx_X4_checkIndex_i l hst G α β γ x 8 8 ((by decide)) (h1)) (va_cwS 2 hts gX4_count_X4_checkIndex rfl rfl rfl (by decide +kernel) ⟨Nat.le_of_ble_eq_true rfl, Nat.le_of_ble_eq_true rfl⟩) hK hN hP hE rfl hl.1 rfl (Nat.le_of_ble_eq_true rfl) dX4_count_3 ⟨Nat.le_of_ble_eq_true rfl, Nat.le_of_ble_eq_true rfl⟩ ht hlocks
set_option maxHeartbeats 4000000 in
set_option maxRecDepth 100000 in
theorem mx_X4_foresee_o (l : Launch) (hst : l.stackTraces = false) (G : oG) (α β γ : oT) (nS : Nat) (nO : Nat) (nH : Nat) (hz : oOK α nS nO nH) (x : Int32) (y : Int32) (h1 : oIn x nO = false) : vx_Met l yX4_foresee wsX4_foresee ({ frames := 8, cells := 1, slots := 6, locals := 124 } : Room) (va_Pc [.ref (G.2.1 0), .int x, .int y] (PX G (cw G (z3 α β γ)))) oNo (oXC "java/lang/IndexOutOfBoundsException") 1 6 (fun _ => False) := by
  refine ox_body (cc := cX4_foresee) (by decide +kernel) rfl (Nat.le_of_ble_eq_true rfl) ?_
  intro p e s m below meth c ls hx hb hml ht hlocks hown hts hP hK hN hE hl
  have hown : s.vm.findClass RX4 = some m.cls := hown
  have hl : lv_has ls 3 [(0, .ref (G.2.1 0)), (1, .int x), (2, .int y)] := hl
  obtain ⟨hz1, hz2, hz3, hz4, hz5, hz6, hz7⟩ := id hz
  refine lv_aload_n hx hb dX4_foresee_0 rfl (lv_at hl 0 rfl) ?_
  refine lv_iload_n hx hb dX4_foresee_1 rfl (lv_at hl 1 rfl) ?_
  exact ox_cV (q0 := 0) (ci := 6) [.int x] [] ⟨hx, hb, hml, hown, hts⟩ (mx_X4_checkOrgan_i l hst G α β γ nS nO nH hz x (h1)) (cwV 1 hts gX4_foresee_X4_checkOrgan rfl rfl rfl (by decide +kernel) ⟨Nat.le_of_ble_eq_true rfl, Nat.le_of_ble_eq_true rfl⟩) hK hN hP hE rfl rfl (cx_C G (z3 α β γ)) rfl hl.1 rfl (Nat.le_of_ble_eq_true rfl) dX4_foresee_2 ⟨Nat.le_of_ble_eq_true rfl, Nat.le_of_ble_eq_true rfl⟩ ht hlocks
set_option maxHeartbeats 4000000 in
set_option maxRecDepth 100000 in
theorem mx_X4_foresee_h (l : Launch) (hst : l.stackTraces = false) (G : oG) (α β γ : oT) (nS : Nat) (nO : Nat) (nH : Nat) (hz : oOK α nS nO nH) (x : Int32) (y : Int32) (h1 : oIn x nO = true) (h2 : oRg y 1 100 = false) : vx_Met l yX4_foresee wsX4_foresee ({ frames := 7, cells := 1, slots := 6, locals := 104 } : Room) (va_Pc [.ref (G.2.1 0), .int x, .int y] (PX G (cw G (z3 α β γ)))) oNo (oXC "java/lang/IllegalArgumentException") 1 6 (fun _ => False) := by
  refine ox_body (cc := cX4_foresee) (by decide +kernel) rfl (Nat.le_of_ble_eq_true rfl) ?_
  intro p e s m below meth c ls hx hb hml ht hlocks hown hts hP hK hN hE hl
  have hown : s.vm.findClass RX4 = some m.cls := hown
  have hl : lv_has ls 3 [(0, .ref (G.2.1 0)), (1, .int x), (2, .int y)] := hl
  obtain ⟨hz1, hz2, hz3, hz4, hz5, hz6, hz7⟩ := id hz
  refine lv_aload_n hx hb dX4_foresee_0 rfl (lv_at hl 0 rfl) ?_
  refine lv_iload_n hx hb dX4_foresee_1 rfl (lv_at hl 1 rfl) ?_
  refine o_cVv (q0 := 0) (ci := 6) [.int x] [] ⟨hx, hb, hml, hown, hts⟩ (m_X4_checkOrgan l G α β γ nS nO nH hz x (h1)) (cwV 1 hts gX4_foresee_X4_checkOrgan rfl rfl rfl (by decide +kernel) ⟨Nat.le_of_ble_eq_true rfl, Nat.le_of_ble_eq_true rfl⟩) hK hN hP rfl rfl (cx_C G (z3 α β γ)) rfl hl.1 rfl (Nat.le_of_ble_eq_true rfl) dX4_foresee_2 ⟨Nat.zero_le _, Nat.zero_le _⟩ ?_
  refine lv_iload_n hx hb dX4_foresee_5 rfl (lv_at hl 2 rfl) ?_
  refine lv_iconst (v := 1) hx hb dX4_foresee_6 (by decide) ?_
  refine lv_bipush (v := 100) hx hb dX4_foresee_7 (by decide) ?_
  exact ox_cS [.int y, .int 1, .int 100] [] ⟨hx, hb, hml, hown, hts⟩ (mx_X4_checkRange_r l hst G α β γ y 1 100 (h2)) (va_cwS 3 hts gX4_foresee_X4_checkRange rfl rfl rfl (by decide +kernel) ⟨Nat.le_of_ble_eq_true rfl, Nat.le_of_ble_eq_true rfl⟩) hK hN hP hE rfl hl.1 rfl (Nat.le_of_ble_eq_true rfl) dX4_foresee_9 ⟨Nat.le_of_ble_eq_true rfl, Nat.le_of_ble_eq_true rfl⟩ ht hlocks
set_option maxHeartbeats 4000000 in
set_option maxRecDepth 100000 in
theorem mx_X4_advise_o (l : Launch) (hst : l.stackTraces = false) (G : oG) (α β γ : oT) (nS : Nat) (nO : Nat) (nH : Nat) (hz : oOK α nS nO nH) (x : Int32) (y : Int32) (z : Int32) (h1 : oIn x nO = false) : vx_Met l yX4_advise wsX4_advise ({ frames := 8, cells := 1, slots := 6, locals := 124 } : Room) (va_Pc [.ref (G.2.1 0), .int x, .int y, .int z] (PX G (cw G (z3 α β γ)))) oNo (oXC "java/lang/IndexOutOfBoundsException") 1 6 (fun _ => False) := by
  refine ox_body (cc := cX4_advise) (by decide +kernel) rfl (Nat.le_of_ble_eq_true rfl) ?_
  intro p e s m below meth c ls hx hb hml ht hlocks hown hts hP hK hN hE hl
  have hown : s.vm.findClass RX4 = some m.cls := hown
  have hl : lv_has ls 8 [(0, .ref (G.2.1 0)), (1, .int x), (2, .int y), (3, .int z)] := hl
  obtain ⟨hz1, hz2, hz3, hz4, hz5, hz6, hz7⟩ := id hz
  refine lv_aload_n hx hb dX4_advise_0 rfl (lv_at hl 0 rfl) ?_
  refine lv_iload_n hx hb dX4_advise_1 rfl (lv_at hl 1 rfl) ?_
  exact ox_cV (q0 := 0) (ci := 6) [.int x] [] ⟨hx, hb, hml, hown, hts⟩ (mx_X4_checkOrgan_i l hst G α β γ nS nO nH hz x (h1)) (cwV 1 hts gX4_advise_X4_checkOrgan rfl rfl rfl (by decide +kernel) ⟨Nat.le_of_ble_eq_true rfl, Nat.le_of_ble_eq_true rfl⟩) hK hN hP hE rfl rfl (cx_C G (z3 α β γ)) rfl hl.1 rfl (Nat.le_of_ble_eq_true rfl) dX4_advise_2 ⟨Nat.le_of_ble_eq_true rfl, Nat.le_of_ble_eq_true rfl⟩ ht hlocks
set_option maxHeartbeats 4000000 in
set_option maxRecDepth 100000 in
theorem mx_X4_advise_s (l : Launch) (hst : l.stackTraces = false) (G : oG) (α β γ : oT) (nS : Nat) (nO : Nat) (nH : Nat) (hz : oOK α nS nO nH) (x : Int32) (y : Int32) (z : Int32) (h1 : oIn x nO = true) (h2 : oIn y nS = false) : vx_Met l yX4_advise wsX4_advise ({ frames := 8, cells := 1, slots := 6, locals := 124 } : Room) (va_Pc [.ref (G.2.1 0), .int x, .int y, .int z] (PX G (cw G (z3 α β γ)))) oNo (oXC "java/lang/IndexOutOfBoundsException") 1 6 (fun _ => False) := by
  refine ox_body (cc := cX4_advise) (by decide +kernel) rfl (Nat.le_of_ble_eq_true rfl) ?_
  intro p e s m below meth c ls hx hb hml ht hlocks hown hts hP hK hN hE hl
  have hown : s.vm.findClass RX4 = some m.cls := hown
  have hl : lv_has ls 8 [(0, .ref (G.2.1 0)), (1, .int x), (2, .int y), (3, .int z)] := hl
  obtain ⟨hz1, hz2, hz3, hz4, hz5, hz6, hz7⟩ := id hz
  refine lv_aload_n hx hb dX4_advise_0 rfl (lv_at hl 0 rfl) ?_
  refine lv_iload_n hx hb dX4_advise_1 rfl (lv_at hl 1 rfl) ?_
  refine o_cVv (q0 := 0) (ci := 6) [.int x] [] ⟨hx, hb, hml, hown, hts⟩ (m_X4_checkOrgan l G α β γ nS nO nH hz x (h1)) (cwV 1 hts gX4_advise_X4_checkOrgan rfl rfl rfl (by decide +kernel) ⟨Nat.le_of_ble_eq_true rfl, Nat.le_of_ble_eq_true rfl⟩) hK hN hP rfl rfl (cx_C G (z3 α β γ)) rfl hl.1 rfl (Nat.le_of_ble_eq_true rfl) dX4_advise_2 ⟨Nat.zero_le _, Nat.zero_le _⟩ ?_
  refine lv_aload_n hx hb dX4_advise_5 rfl (lv_at hl 0 rfl) ?_
  refine lv_iload_n hx hb dX4_advise_6 rfl (lv_at hl 2 rfl) ?_
  exact ox_cV (q0 := 0) (ci := 6) [.int y] [] ⟨hx, hb, hml, hown, hts⟩ (mx_X4_checkStreet_i l hst G α β γ nS nO nH hz y (h2)) (cwV 1 hts gX4_advise_X4_checkStreet rfl rfl rfl (by decide +kernel) ⟨Nat.le_of_ble_eq_true rfl, Nat.le_of_ble_eq_true rfl⟩) hK hN hP hE rfl rfl (cx_C G (z3 α β γ)) rfl hl.1 rfl (Nat.le_of_ble_eq_true rfl) dX4_advise_7 ⟨Nat.le_of_ble_eq_true rfl, Nat.le_of_ble_eq_true rfl⟩ ht hlocks
set_option maxHeartbeats 4000000 in
set_option maxRecDepth 100000 in
theorem mx_X4_advise_h (l : Launch) (hst : l.stackTraces = false) (G : oG) (α β γ : oT) (nS : Nat) (nO : Nat) (nH : Nat) (hz : oOK α nS nO nH) (x : Int32) (y : Int32) (z : Int32) (h1 : oIn x nO = true) (h2 : oIn y nS = true) (h3 : oRg z 1 24 = false) : vx_Met l yX4_advise wsX4_advise ({ frames := 7, cells := 1, slots := 6, locals := 104 } : Room) (va_Pc [.ref (G.2.1 0), .int x, .int y, .int z] (PX G (cw G (z3 α β γ)))) oNo (oXC "java/lang/IllegalArgumentException") 1 6 (fun _ => False) := by
  refine ox_body (cc := cX4_advise) (by decide +kernel) rfl (Nat.le_of_ble_eq_true rfl) ?_
  intro p e s m below meth c ls hx hb hml ht hlocks hown hts hP hK hN hE hl
  have hown : s.vm.findClass RX4 = some m.cls := hown
  have hl : lv_has ls 8 [(0, .ref (G.2.1 0)), (1, .int x), (2, .int y), (3, .int z)] := hl
  obtain ⟨hz1, hz2, hz3, hz4, hz5, hz6, hz7⟩ := id hz
  refine lv_aload_n hx hb dX4_advise_0 rfl (lv_at hl 0 rfl) ?_
  refine lv_iload_n hx hb dX4_advise_1 rfl (lv_at hl 1 rfl) ?_
  refine o_cVv (q0 := 0) (ci := 6) [.int x] [] ⟨hx, hb, hml, hown, hts⟩ (m_X4_checkOrgan l G α β γ nS nO nH hz x (h1)) (cwV 1 hts gX4_advise_X4_checkOrgan rfl rfl rfl (by decide +kernel) ⟨Nat.le_of_ble_eq_true rfl, Nat.le_of_ble_eq_true rfl⟩) hK hN hP rfl rfl (cx_C G (z3 α β γ)) rfl hl.1 rfl (Nat.le_of_ble_eq_true rfl) dX4_advise_2 ⟨Nat.zero_le _, Nat.zero_le _⟩ ?_
  refine lv_aload_n hx hb dX4_advise_5 rfl (lv_at hl 0 rfl) ?_
  refine lv_iload_n hx hb dX4_advise_6 rfl (lv_at hl 2 rfl) ?_
  refine o_cVv (q0 := 0) (ci := 6) [.int y] [] ⟨hx, hb, hml, hown, hts⟩ (m_X4_checkStreet l G α β γ nS nO nH hz y (h2)) (cwV 1 hts gX4_advise_X4_checkStreet rfl rfl rfl (by decide +kernel) ⟨Nat.le_of_ble_eq_true rfl, Nat.le_of_ble_eq_true rfl⟩) hK hN hP rfl rfl (cx_C G (z3 α β γ)) rfl hl.1 rfl (Nat.le_of_ble_eq_true rfl) dX4_advise_7 ⟨Nat.zero_le _, Nat.zero_le _⟩ ?_
  refine lv_iload_n hx hb dX4_advise_10 rfl (lv_at hl 3 rfl) ?_
  refine lv_iconst (v := 1) hx hb dX4_advise_11 (by decide) ?_
  refine lv_bipush (v := 24) hx hb dX4_advise_12 (by decide) ?_
  exact ox_cS [.int z, .int 1, .int 24] [] ⟨hx, hb, hml, hown, hts⟩ (mx_X4_checkRange_r l hst G α β γ z 1 24 (h3)) (va_cwS 3 hts gX4_advise_X4_checkRange rfl rfl rfl (by decide +kernel) ⟨Nat.le_of_ble_eq_true rfl, Nat.le_of_ble_eq_true rfl⟩) hK hN hP hE rfl hl.1 rfl (Nat.le_of_ble_eq_true rfl) dX4_advise_14 ⟨Nat.le_of_ble_eq_true rfl, Nat.le_of_ble_eq_true rfl⟩ ht hlocks
set_option maxHeartbeats 4000000 in
set_option maxRecDepth 100000 in
theorem mx_X4_byteAt_i (l : Launch) (hst : l.stackTraces = false) (G : oG) (α β γ : oT) (x : Int32) (hg : pOK γ) (h1 : oIn x (oN (γ 0 0 0)) = false) : vx_Met l yX4_byteAt wsX4_byteAt ({ frames := 7, cells := 1, slots := 6, locals := 103 } : Room) (va_Pc [.ref (G.2.1 0), .int x] (PX G (cw G (z3 α β γ)))) oNo (oXC "java/lang/IndexOutOfBoundsException") 1 6 (fun _ => False) := by
  refine ox_body (cc := cX4_byteAt) (by decide +kernel) rfl (Nat.le_of_ble_eq_true rfl) ?_
  intro p e s m below meth c ls hx hb hml ht hlocks hown hts hP hK hN hE hl
  have hown : s.vm.findClass RX4 = some m.cls := hown
  have hl : lv_has ls 2 [(0, .ref (G.2.1 0)), (1, .int x)] := hl
  have hg2 := hg.2
  refine lv_iload_n hx hb dX4_byteAt_0 rfl (lv_at hl 1 rfl) ?_
  refine lv_aload_n hx hb dX4_byteAt_1 rfl (lv_at hl 0 rfl) ?_
  refine va_get (D := G.1) (ci := 6) (v := .ref (G.2.1 135)) (C := RX4) (T := TX4) (N := 3) hx hb hts (fun w9 h9 => List.mem_cons_of_mem _ (List.mem_append_left _ (List.mem_append_left _ (List.mem_append_right _ (h9))))) hown hK hP (0) (cx_C G (z3 α β γ)) rfl 2 (by decide) (hts (.fieldLink RX4 22 "OrganCensus" "paper" "LOrganCensus$Paper;") (List.mem_of_getElem? (i := 1) rfl)) (fun _ h9 => h9) rfl dX4_byteAt_2 ?_
  refine va_get (D := G.1) (ci := 3) (v := .int (γ 0 0 0)) (C := RX1) (T := TX1) (N := 2) hx hb hts (fun w9 h9 => List.mem_cons_of_mem _ (List.mem_append_left _ (List.mem_append_right _ (h9)))) hown hK hP (135) (cx_P G (z3 α β γ)) rfl 1 (by decide) (hts (.fieldLink RX4 130 "OrganCensus$Paper" "length" "I") (List.mem_of_getElem? (i := 2) rfl)) (fun _ h9 => h9) rfl dX4_byteAt_5 ?_
  exact ox_cS [.int x, .int (γ 0 0 0)] [] ⟨hx, hb, hml, hown, hts⟩ (mx_X4_checkIndex_i l hst G α β γ x (oN (γ 0 0 0)) (γ 0 0 0) (hg.1) (h1)) (va_cwS 2 hts gX4_byteAt_X4_checkIndex rfl rfl rfl (by decide +kernel) ⟨Nat.le_of_ble_eq_true rfl, Nat.le_of_ble_eq_true rfl⟩) hK hN hP hE rfl hl.1 rfl (Nat.le_of_ble_eq_true rfl) dX4_byteAt_8 ⟨Nat.le_of_ble_eq_true rfl, Nat.le_of_ble_eq_true rfl⟩ ht hlocks
