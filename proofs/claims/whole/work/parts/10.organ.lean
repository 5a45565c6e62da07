set_option maxHeartbeats 4000000 in
set_option maxRecDepth 100000 in
theorem m_X0_standsIn (l : Launch) (G : oG) (Z : oZ) {t : Nat} (ht : t < 2) (τ : oT) (i : Nat) (hi : i < 8) (x : Int32) : Met l yX0_standsIn wsX0_standsIn ({ frames := 0, cells := 0, slots := 0, locals := 0 } : Room) (va_Pc [.ref (ta G t (27 + 5 * i)), .int x] (PW G (tw G Z t τ))) (oR (some (.int (bI (oStd τ i x))))) 0 0 (fun _ => False) := by
  refine o_body (cc := cX0_standsIn) (by decide +kernel) rfl (Nat.le_of_ble_eq_true rfl) ?_
  intro p e s m below meth c ls hx hb hml hr hlocks hown hts hP hK hN hl
  have hown : s.vm.findClass RX0 = some m.cls := hown
  have hl : lv_has ls 2 [(0, .ref (ta G t (27 + 5 * i))), (1, .int x)] := hl
  refine lv_aload_n hx hb dX0_standsIn_0 rfl (lv_at hl 0 rfl) ?_
  refine va_get (D := G.1) (ci := 2) (v := .int (τ 12 i 0)) (C := RX0) (T := TX0) (N := 12) hx hb hts (fun w9 h9 => List.mem_cons_of_mem _ (List.mem_append_right _ (h9))) hown hK hP (1 + 67 * t + (27 + 5 * i)) (tw_O G Z ht τ (by omega)) rfl 6 (by decide) (hts (.fieldLink RX0 37 "OrganCensus$Organ" "hoursToGo" "I") (List.mem_of_getElem? (i := 1) rfl)) (fun _ h9 => h9) rfl dX0_standsIn_1 ?_
  refine lv_if_ne (tgt := 19) hx hb dX0_standsIn_4 (by decide) (fun c4 => ?_) (fun c4 => ?_)
  · refine lv_iconst (v := 0) hx hb dX0_standsIn_19 (by decide) ?_
    exact o_zretR hx hb hr hlocks dX0_standsIn_20 (by first | exact Or.inl rfl | exact Or.inr rfl) (by simp [oStd, bI, c4])
  · refine lv_aload_n hx hb dX0_standsIn_7 rfl (lv_at hl 0 rfl) ?_
    refine va_get (D := G.1) (ci := 2) (v := .int (τ 10 i 0)) (C := RX0) (T := TX0) (N := 12) hx hb hts (fun w9 h9 => List.mem_cons_of_mem _ (List.mem_append_right _ (h9))) hown hK hP (1 + 67 * t + (27 + 5 * i)) (tw_O G Z ht τ (by omega)) rfl 4 (by decide) (hts (.fieldLink RX0 30 "OrganCensus$Organ" "street" "I") (List.mem_of_getElem? (i := 2) rfl)) (fun _ h9 => h9) rfl dX0_standsIn_8 ?_
    refine lv_iload_n hx hb dX0_standsIn_11 rfl (lv_at hl 1 rfl) ?_
    refine lv_icmp_ne (tgt := 19) hx hb dX0_standsIn_12 (by decide) (fun c12 => ?_) (fun c12 => ?_)
    · refine lv_iconst (v := 0) hx hb dX0_standsIn_19 (by decide) ?_
      exact o_zretR hx hb hr hlocks dX0_standsIn_20 (by first | exact Or.inl rfl | exact Or.inr rfl) (by simp [oStd, bI, c4, c12])
    · refine lv_iconst (v := 1) hx hb dX0_standsIn_15 (by decide) ?_
      refine lv_goto (tgt := 20) hx hb dX0_standsIn_16 (by decide) ?_
      exact o_zretR hx hb hr hlocks dX0_standsIn_20 (by first | exact Or.inl rfl | exact Or.inr rfl) (by simp [oStd, bI, c4, c12])
set_option maxHeartbeats 4000000 in
set_option maxRecDepth 100000 in
theorem m_X0_soundAt (l : Launch) (G : oG) (Z : oZ) {t : Nat} (ht : t < 2) (τ : oT) (i : Nat) (hi : i < 8) (x : Int32) (y : Int32) : Met l yX0_soundAt wsX0_soundAt ({ frames := 1, cells := 0, slots := 0, locals := 21 } : Room) (va_Pc [.ref (ta G t (27 + 5 * i)), .int x, .int y] (PW G (tw G Z t τ))) (oR (some (.int (oSnd τ i x y)))) 0 0 (fun _ => False) := by
  refine o_body (cc := cX0_soundAt) (by decide +kernel) rfl (Nat.le_of_ble_eq_true rfl) ?_
  intro p e s m below meth c ls hx hb hml hr hlocks hown hts hP hK hN hl
  have hown : s.vm.findClass RX0 = some m.cls := hown
  have hl : lv_has ls 3 [(0, .ref (ta G t (27 + 5 * i))), (1, .int x), (2, .int y)] := hl
  refine lv_aload_n hx hb dX0_soundAt_0 rfl (lv_at hl 0 rfl) ?_
  refine lv_iload_n hx hb dX0_soundAt_1 rfl (lv_at hl 1 rfl) ?_
  refine o_cVi (q0 := 1 + 67 * t + (27 + 5 * i)) (ci := 2) [.int x] [] ⟨hx, hb, hml, hown, hts⟩ (m_X0_standsIn l G Z ht τ i (by omega) x) (cwV 1 hts gX0_soundAt_X0_standsIn rfl rfl rfl (by decide +kernel) ⟨Nat.le_of_ble_eq_true rfl, Nat.le_of_ble_eq_true rfl⟩) hK hN hP rfl rfl (tw_O G Z ht τ (by omega)) rfl hl.1 rfl (Nat.le_of_ble_eq_true rfl) dX0_soundAt_2 ⟨Nat.zero_le _, Nat.zero_le _⟩ ?_
  refine lv_if_ne (tgt := 10) hx hb dX0_soundAt_5 (by decide) (fun c5 => ?_) (fun c5 => ?_)
  · have c5 := bI_ne.mp c5
    refine lv_iconst (v := 0) hx hb dX0_soundAt_10 (by decide) ?_
    refine lv_aload_n hx hb dX0_soundAt_11 rfl (lv_at hl 0 rfl) ?_
    refine va_get (D := G.1) (ci := 2) (v := .int (τ 13 i 0)) (C := RX0) (T := TX0) (N := 12) hx hb hts (fun w9 h9 => List.mem_cons_of_mem _ (List.mem_append_right _ (h9))) hown hK hP (1 + 67 * t + (27 + 5 * i)) (tw_O G Z ht τ (by omega)) rfl 7 (by decide) (hts (.fieldLink RX0 40 "OrganCensus$Organ" "loudness" "I") (List.mem_of_getElem? (i := 1) rfl)) (fun _ h9 => h9) rfl dX0_soundAt_12 ?_
    refine lv_iload_n hx hb dX0_soundAt_15 rfl (lv_at hl 2 rfl) ?_
    refine lv_aload_n hx hb dX0_soundAt_16 rfl (lv_at hl 0 rfl) ?_
    refine va_get (D := G.1) (ci := 2) (v := .int (τ 11 i 0)) (C := RX0) (T := TX0) (N := 12) hx hb hts (fun w9 h9 => List.mem_cons_of_mem _ (List.mem_append_right _ (h9))) hown hK hP (1 + 67 * t + (27 + 5 * i)) (tw_O G Z ht τ (by omega)) rfl 5 (by decide) (hts (.fieldLink RX0 34 "OrganCensus$Organ" "pitch" "I") (List.mem_of_getElem? (i := 2) rfl)) (fun _ h9 => h9) rfl dX0_soundAt_17 ?_
    refine lv_isub hx hb dX0_soundAt_20 ?_
    refine va_mabs (rest := [.int (τ 13 i 0), .int 0]) hx hb (hml.trans hl.1.symm) hown (hts (.methodLink RX0 67 Lib.Math.abs.name) (List.mem_of_getElem? (i := 3) rfl)) (hts (.static Lib.Math.abs.name) (List.mem_of_getElem? (i := 4) rfl)) (hts (.initialized "java/lang/Math") (List.mem_of_getElem? (i := 5) rfl)) (hts (.code Lib.Math.abs.name Lib.Math.abs.code 1 (some .int)) (List.mem_of_getElem? (i := 6) rfl)) (Nat.le_of_ble_eq_true rfl) (Nat.le_of_ble_eq_true rfl) (Nat.zero_le _) (Nat.zero_le _) dX0_soundAt_21 ?_
    change W _ _ _ _ _ _ _ _ _ _ _ _ _ _ _ (F0 m 24 ls (.int (o_abs (y - (τ 11 i 0))) :: _))
    refine lv_isub hx hb dX0_soundAt_24 ?_
    refine va_mmax (rest := []) hx hb (hml.trans hl.1.symm) hown (hts (.methodLink RX0 75 Lib.Math.max.name) (List.mem_of_getElem? (i := 7) rfl)) (hts (.static Lib.Math.max.name) (List.mem_of_getElem? (i := 8) rfl)) (hts (.initialized "java/lang/Math") (List.mem_of_getElem? (i := 5) rfl)) (hts (.code Lib.Math.max.name Lib.Math.max.code 2 (some .int)) (List.mem_of_getElem? (i := 9) rfl)) (Nat.le_of_ble_eq_true rfl) (Nat.le_of_ble_eq_true rfl) (Nat.zero_le _) (Nat.zero_le _) dX0_soundAt_25 ?_
    change W _ _ _ _ _ _ _ _ _ _ _ _ _ _ _ (F0 m 28 ls (.int (o_max 0 ((τ 13 i 0) - (o_abs (y - (τ 11 i 0))))) :: _))
    exact o_iretR hx hb hr hlocks dX0_soundAt_28 (by simp [oSnd, c5])
  · have c5 := bI_eq.mp c5
    refine lv_iconst (v := 0) hx hb dX0_soundAt_8 (by decide) ?_
    exact o_iretR hx hb hr hlocks dX0_soundAt_9 (by simp [oSnd, c5])
set_option maxHeartbeats 4000000 in
set_option maxRecDepth 100000 in
theorem m_X0_nextTune (l : Launch) (G : oG) (Z : oZ) {t : Nat} (ht : t < 2) (τ : oT) (i : Nat) (hi : i < 8) : Met l yX0_nextTune wsX0_nextTune ({ frames := 0, cells := 0, slots := 0, locals := 0 } : Room) (va_Pc [.ref (ta G t (27 + 5 * i))] (PW G (tw G Z t τ))) (oR (some (.int (oNT τ i)))) 0 0 (fun _ => False) := by
  refine o_body (cc := cX0_nextTune) (by decide +kernel) rfl (Nat.le_of_ble_eq_true rfl) ?_
  intro p e s m below meth c ls hx hb hml hr hlocks hown hts hP hK hN hl
  have hown : s.vm.findClass RX0 = some m.cls := hown
  have hl : lv_has ls 1 [(0, .ref (ta G t (27 + 5 * i)))] := hl
  refine lv_aload_n hx hb dX0_nextTune_0 rfl (lv_at hl 0 rfl) ?_
  refine va_get (D := G.1) (ci := 2) (v := .int (τ 17 i 0)) (C := RX0) (T := TX0) (N := 12) hx hb hts (fun w9 h9 => List.mem_cons_of_mem _ (List.mem_append_right _ (h9))) hown hK hP (1 + 67 * t + (27 + 5 * i)) (tw_O G Z ht τ (by omega)) rfl 11 (by decide) (hts (.fieldLink RX0 52 "OrganCensus$Organ" "place" "I") (List.mem_of_getElem? (i := 1) rfl)) (fun _ h9 => h9) rfl dX0_nextTune_1 ?_
  refine lv_if_lt (tgt := 28) hx hb dX0_nextTune_4 (by decide) (fun c4 => ?_) (fun c4 => ?_)
  · refine lv_iconst (v := 0) hx hb dX0_nextTune_28 (by decide) ?_
    exact o_iretR hx hb hr hlocks dX0_nextTune_29 (by simp [oNT, c4])
  · refine lv_aload_n hx hb dX0_nextTune_7 rfl (lv_at hl 0 rfl) ?_
    refine va_get (D := G.1) (ci := 2) (v := .int (τ 17 i 0)) (C := RX0) (T := TX0) (N := 12) hx hb hts (fun w9 h9 => List.mem_cons_of_mem _ (List.mem_append_right _ (h9))) hown hK hP (1 + 67 * t + (27 + 5 * i)) (tw_O G Z ht τ (by omega)) rfl 11 (by decide) (hts (.fieldLink RX0 52 "OrganCensus$Organ" "place" "I") (List.mem_of_getElem? (i := 1) rfl)) (fun _ h9 => h9) rfl dX0_nextTune_8 ?_
    refine lv_bipush (v := 8) hx hb dX0_nextTune_11 (by decide) ?_
    refine lv_icmp_ge (tgt := 28) hx hb dX0_nextTune_13 (by decide) (fun c13 => ?_) (fun c13 => ?_)
    · refine lv_iconst (v := 0) hx hb dX0_nextTune_28 (by decide) ?_
      exact o_iretR hx hb hr hlocks dX0_nextTune_29 (by simp [oNT, c4, c13])
    · refine lv_aload_n hx hb dX0_nextTune_16 rfl (lv_at hl 0 rfl) ?_
      refine va_get (D := G.1) (ci := 2) (v := .ref (ta G t (28 + 5 * i))) (C := RX0) (T := TX0) (N := 12) hx hb hts (fun w9 h9 => List.mem_cons_of_mem _ (List.mem_append_right _ (h9))) hown hK hP (1 + 67 * t + (27 + 5 * i)) (tw_O G Z ht τ (by omega)) rfl 0 (by decide) (hts (.fieldLink RX0 9 "OrganCensus$Organ" "tunes" "[I") (List.mem_of_getElem? (i := 2) rfl)) (fun _ h9 => h9) rfl dX0_nextTune_17 ?_
      refine lv_aload_n hx hb dX0_nextTune_20 rfl (lv_at hl 0 rfl) ?_
      refine va_get (D := G.1) (ci := 2) (v := .int (τ 17 i 0)) (C := RX0) (T := TX0) (N := 12) hx hb hts (fun w9 h9 => List.mem_cons_of_mem _ (List.mem_append_right _ (h9))) hown hK hP (1 + 67 * t + (27 + 5 * i)) (tw_O G Z ht τ (by omega)) rfl 11 (by decide) (hts (.fieldLink RX0 52 "OrganCensus$Organ" "place" "I") (List.mem_of_getElem? (i := 1) rfl)) (fun _ h9 => h9) rfl dX0_nextTune_21 ?_
      refine va_iald hx hb hK hP (1 + 67 * t + (28 + 5 * i)) 0 (tw_Ot G Z ht τ (by omega)) rfl (o_vin c4 c13 (by decide) (by decide)) dX0_nextTune_24 ?_
      refine lv_goto (tgt := 29) hx hb dX0_nextTune_25 (by decide) ?_
      exact o_iretR hx hb hr hlocks dX0_nextTune_29 (by simp [oNT, c4, c13])
set_option maxHeartbeats 4000000 in
set_option maxRecDepth 100000 in
theorem m_X0_nextWear (l : Launch) (G : oG) (Z : oZ) {t : Nat} (ht : t < 2) (τ : oT) (i : Nat) (hi : i < 8) : Met l yX0_nextWear wsX0_nextWear ({ frames := 1, cells := 0, slots := 0, locals := 20 } : Room) (va_Pc [.ref (ta G t (27 + 5 * i))] (PW G (tw G Z t τ))) (oR (some (.int (oNW τ i)))) 0 0 (fun _ => False) := by
  refine o_body (cc := cX0_nextWear) (by decide +kernel) rfl (Nat.le_of_ble_eq_true rfl) ?_
  intro p e s m below meth c ls hx hb hml hr hlocks hown hts hP hK hN hl
  have hown : s.vm.findClass RX0 = some m.cls := hown
  have hl : lv_has ls 2 [(0, .ref (ta G t (27 + 5 * i)))] := hl
  refine lv_aload_n hx hb dX0_nextWear_0 rfl (lv_at hl 0 rfl) ?_
  refine o_cVi (q0 := 1 + 67 * t + (27 + 5 * i)) (ci := 2) [] [] ⟨hx, hb, hml, hown, hts⟩ (m_X0_nextTune l G Z ht τ i (by omega)) (cwV 0 hts gX0_nextWear_X0_nextTune rfl rfl rfl (by decide +kernel) ⟨Nat.le_of_ble_eq_true rfl, Nat.le_of_ble_eq_true rfl⟩) hK hN hP rfl rfl (tw_O G Z ht τ (by omega)) rfl hl.1 rfl (Nat.le_of_ble_eq_true rfl) dX0_nextWear_1 ⟨Nat.zero_le _, Nat.zero_le _⟩ ?_
  refine lv_istore_n (lv' := [(1, .int (oNT τ i)), (0, .ref (ta G t (27 + 5 * i)))]) hx hb dX0_nextWear_4 rfl hl (by decide) rfl (fun ls hl => ?_)
  refine lv_iload_n hx hb dX0_nextWear_5 rfl (lv_at hl 0 rfl) ?_
  refine lv_if_lt (tgt := 24) hx hb dX0_nextWear_6 (by decide) (fun c6 => ?_) (fun c6 => ?_)
  · refine lv_iconst (v := 0) hx hb dX0_nextWear_24 (by decide) ?_
    exact o_iretR hx hb hr hlocks dX0_nextWear_25 (by simp [oNW, c6])
  · refine lv_iload_n hx hb dX0_nextWear_9 rfl (lv_at hl 0 rfl) ?_
    refine lv_bipush (v := 6) hx hb dX0_nextWear_10 (by decide) ?_
    refine lv_icmp_ge (tgt := 24) hx hb dX0_nextWear_12 (by decide) (fun c12 => ?_) (fun c12 => ?_)
    · refine lv_iconst (v := 0) hx hb dX0_nextWear_24 (by decide) ?_
      exact o_iretR hx hb hr hlocks dX0_nextWear_25 (by simp [oNW, c6, c12])
    · refine lv_aload_n hx hb dX0_nextWear_15 rfl (lv_at hl 1 rfl) ?_
      refine va_get (D := G.1) (ci := 2) (v := .ref (ta G t (29 + 5 * i))) (C := RX0) (T := TX0) (N := 12) hx hb hts (fun w9 h9 => List.mem_cons_of_mem _ (List.mem_append_right _ (h9))) hown hK hP (1 + 67 * t + (27 + 5 * i)) (tw_O G Z ht τ (by omega)) rfl 1 (by decide) (hts (.fieldLink RX0 15 "OrganCensus$Organ" "wear" "[I") (List.mem_of_getElem? (i := 1) rfl)) (fun _ h9 => h9) rfl dX0_nextWear_16 ?_
      refine lv_iload_n hx hb dX0_nextWear_19 rfl (lv_at hl 0 rfl) ?_
      refine va_iald hx hb hK hP (1 + 67 * t + (29 + 5 * i)) 0 (tw_Ow G Z ht τ (by omega)) rfl (o_vin c6 c12 (by decide) (by decide)) dX0_nextWear_20 ?_
      refine lv_goto (tgt := 25) hx hb dX0_nextWear_21 (by decide) ?_
      exact o_iretR hx hb hr hlocks dX0_nextWear_25 (by simp [oNW, c6, c12])
set_option maxHeartbeats 4000000 in
set_option maxRecDepth 100000 in
theorem m_X0_turn (l : Launch) (G : oG) (Z : oZ) {t : Nat} (ht : t < 2) (hI : wl_I G.2.1 137) (τ : oT) (i : Nat) (hi : i < 8) : Met l yX0_turn wsX0_turn ({ frames := 1, cells := 0, slots := 0, locals := 21 } : Room) (va_Pc [.ref (ta G t (27 + 5 * i))] (PW G (tw G Z t τ))) (oQ none (fun H9 => va_P G.1 vwCl (tw G Z t (oTurn τ i)) H9) (oA G)) 0 0 (oA G) := by
  refine o_body (cc := cX0_turn) (by decide +kernel) rfl (Nat.le_of_ble_eq_true rfl) ?_
  intro p e s m below meth c ls hx hb hml hr hlocks hown hts hP hK hN hl
  have hown : s.vm.findClass RX0 = some m.cls := hown
  have hl : lv_has ls 2 [(0, .ref (ta G t (27 + 5 * i)))] := hl
  have hS : va_S (oA G) s.heap s.heap [] := va_S.rf
  have jn34 : ∀ (τ34 : oT), τ34 = (oTurn1 τ i) → ∀ (H : Heap) (locs : List Loc), va_P G.1 vwCl (tw G Z t τ34) H → va_S (oA G) s.heap H locs → ∀ ls : Array Slot, lv_has ls 2 [(0, .ref (ta G t (27 + 5 * i)))] → W p l e ({ frames := 1, cells := 0, slots := 0, locals := 21 } : Room) s m ([.ref (ta G t (27 + 5 * i))] : List Value).toArray below meth c H locs 0 0 (MQ below (oQ none (fun H9 => va_P G.1 vwCl (tw G Z t (oTurn τ i)) H9) (oA G)) ([.ref (ta G t (27 + 5 * i))] : List Value).toArray s 0 0 (oA G)) (F0 m 34 ls []) := by
    intro  τ34 eτ34 H locs hP hS ls hl
    subst eτ34
    refine lv_aload_n hx hb dX0_turn_34 rfl (lv_at hl 0 rfl) ?_
    refine lv_aload_n hx hb dX0_turn_35 rfl (lv_at hl 0 rfl) ?_
    refine va_get (D := G.1) (ci := 2) (v := .int ((oTurn1 τ i) 17 i 0)) (C := RX0) (T := TX0) (N := 12) hx hb hts (fun w9 h9 => List.mem_cons_of_mem _ (List.mem_append_right _ (h9))) hown hK hP (1 + 67 * t + (27 + 5 * i)) (tw_O G Z ht (oTurn1 τ i) (by omega)) rfl 11 (by decide) (hts (.fieldLink RX0 52 "OrganCensus$Organ" "place" "I") (List.mem_of_getElem? (i := 6) rfl)) (fun _ h9 => h9) rfl dX0_turn_36 ?_
    refine lv_iconst (v := 1) hx hb dX0_turn_39 (by decide) ?_
    refine lv_iadd hx hb dX0_turn_40 ?_
    refine lv_aload_n hx hb dX0_turn_41 rfl (lv_at hl 0 rfl) ?_
    refine va_get (D := G.1) (ci := 2) (v := .int ((oTurn1 τ i) 16 i 0)) (C := RX0) (T := TX0) (N := 12) hx hb hts (fun w9 h9 => List.mem_cons_of_mem _ (List.mem_append_right _ (h9))) hown hK hP (1 + 67 * t + (27 + 5 * i)) (tw_O G Z ht (oTurn1 τ i) (by omega)) rfl 10 (by decide) (hts (.fieldLink RX0 49 "OrganCensus$Organ" "barrelLength" "I") (List.mem_of_getElem? (i := 7) rfl)) (fun _ h9 => h9) rfl dX0_turn_42 ?_
    have jn58 : ∀ v58_0 : Int32, v58_0 = (if oTurn1 τ i 16 i 0 ≤ oTurn1 τ i 17 i 0 + 1 then 0 else oTurn1 τ i 17 i 0 + 1) → ∀ ls : Array Slot, lv_has ls 2 [(0, .ref (ta G t (27 + 5 * i)))] → W p l e ({ frames := 1, cells := 0, slots := 0, locals := 21 } : Room) s m ([.ref (ta G t (27 + 5 * i))] : List Value).toArray below meth c H locs 0 0 (MQ below (oQ none (fun H9 => va_P G.1 vwCl (tw G Z t (oTurn τ i)) H9) (oA G)) ([.ref (ta G t (27 + 5 * i))] : List Value).toArray s 0 0 (oA G)) (F0 m 58 ls [.int v58_0, .ref (ta G t (27 + 5 * i))]) := by
      intro v58_0 ev58_0 ls hl
      subst ev58_0
      refine va_put (D := G.1) (ci := 2) (v := .int (if oTurn1 τ i 16 i 0 ≤ oTurn1 τ i 17 i 0 + 1 then 0 else oTurn1 τ i 17 i 0 + 1)) (ty := .int) (C := RX0) (T := TX0) (N := 12) hx hb hts (fun w9 h9 => List.mem_cons_of_mem _ (List.mem_append_right _ (h9))) tyX0 tyX0_ok nmX0 hown hK hP (tw_D G Z t _ hI) hS (1 + 67 * t + (27 + 5 * i)) (tw_O G Z ht (oTurn1 τ i) (by omega)) rfl 11 (by decide) (hts (.fieldLink RX0 52 "OrganCensus$Organ" "place" "I") (List.mem_of_getElem? (i := 6) rfl)) (fun _ h9 => h9) rfl (by decide +kernel) rfl rfl (Nat.le_of_ble_eq_true rfl) dX0_turn_58 (fun H locs hP hD hS => ?_)
      have hP : va_P G.1 vwCl (tw G Z t (su (oTurn1 τ i) 17 i 0 (if oTurn1 τ i 16 i 0 ≤ oTurn1 τ i 17 i 0 + 1 then 0 else oTurn1 τ i 17 i 0 + 1))) H := by rw [← tw_uO17 G Z ht (oTurn1 τ i) (by omega) (if oTurn1 τ i 16 i 0 ≤ oTurn1 τ i 17 i 0 + 1 then 0 else oTurn1 τ i 17 i 0 + 1)]; exact hP
      clear hD
      exact o_vretM hx hb hr hlocks hS dX0_turn_61 (hP)
    refine lv_icmp_ge (tgt := 57) hx hb dX0_turn_45 (by decide) (fun c45 => ?_) (fun c45 => ?_)
    · refine lv_iconst (v := 0) hx hb dX0_turn_57 (by decide) ?_
      exact jn58 _ (by simp [c45]) ls (lv_sub hl [0] rfl)
    · refine lv_aload_n hx hb dX0_turn_48 rfl (lv_at hl 0 rfl) ?_
      refine va_get (D := G.1) (ci := 2) (v := .int ((oTurn1 τ i) 17 i 0)) (C := RX0) (T := TX0) (N := 12) hx hb hts (fun w9 h9 => List.mem_cons_of_mem _ (List.mem_append_right _ (h9))) hown hK hP (1 + 67 * t + (27 + 5 * i)) (tw_O G Z ht (oTurn1 τ i) (by omega)) rfl 11 (by decide) (hts (.fieldLink RX0 52 "OrganCensus$Organ" "place" "I") (List.mem_of_getElem? (i := 6) rfl)) (fun _ h9 => h9) rfl dX0_turn_49 ?_
      refine lv_iconst (v := 1) hx hb dX0_turn_52 (by decide) ?_
      refine lv_iadd hx hb dX0_turn_53 ?_
      refine lv_goto (tgt := 58) hx hb dX0_turn_54 (by decide) ?_
      exact jn58 _ (by simp [c45]) ls (lv_sub hl [0] rfl)
  refine lv_aload_n hx hb dX0_turn_0 rfl (lv_at hl 0 rfl) ?_
  refine o_cVi (q0 := 1 + 67 * t + (27 + 5 * i)) (ci := 2) [] [] ⟨hx, hb, hml, hown, hts⟩ (m_X0_nextTune l G Z ht τ i (by omega)) (cwV 0 hts gX0_turn_X0_nextTune rfl rfl rfl (by decide +kernel) ⟨Nat.le_of_ble_eq_true rfl, Nat.le_of_ble_eq_true rfl⟩) hK hN hP rfl rfl (tw_O G Z ht τ (by omega)) rfl hl.1 rfl (Nat.le_of_ble_eq_true rfl) dX0_turn_1 ⟨Nat.zero_le _, Nat.zero_le _⟩ ?_
  refine lv_istore_n (lv' := [(1, .int (oNT τ i)), (0, .ref (ta G t (27 + 5 * i)))]) hx hb dX0_turn_4 rfl hl (by decide) rfl (fun ls hl => ?_)
  refine lv_iload_n hx hb dX0_turn_5 rfl (lv_at hl 0 rfl) ?_
  refine lv_if_lt (tgt := 34) hx hb dX0_turn_6 (by decide) (fun c6 => ?_) (fun c6 => ?_)
  · exact jn34  _ (by simp [oTurn1, c6]) _ _ hP hS ls (lv_sub hl [1] rfl)
  · refine lv_iload_n hx hb dX0_turn_9 rfl (lv_at hl 0 rfl) ?_
    refine lv_bipush (v := 6) hx hb dX0_turn_10 (by decide) ?_
    refine lv_icmp_ge (tgt := 34) hx hb dX0_turn_12 (by decide) (fun c12 => ?_) (fun c12 => ?_)
    · exact jn34  _ (by simp [oTurn1, c6, c12]) _ _ hP hS ls (lv_sub hl [1] rfl)
    · refine lv_aload_n hx hb dX0_turn_15 rfl (lv_at hl 1 rfl) ?_
      refine va_get (D := G.1) (ci := 2) (v := .ref (ta G t (29 + 5 * i))) (C := RX0) (T := TX0) (N := 12) hx hb hts (fun w9 h9 => List.mem_cons_of_mem _ (List.mem_append_right _ (h9))) hown hK hP (1 + 67 * t + (27 + 5 * i)) (tw_O G Z ht τ (by omega)) rfl 1 (by decide) (hts (.fieldLink RX0 15 "OrganCensus$Organ" "wear" "[I") (List.mem_of_getElem? (i := 1) rfl)) (fun _ h9 => h9) rfl dX0_turn_16 ?_
      refine lv_iload_n hx hb dX0_turn_19 rfl (lv_at hl 0 rfl) ?_
      refine lv_bipush (v := 90) hx hb dX0_turn_20 (by decide) ?_
      refine lv_aload_n hx hb dX0_turn_22 rfl (lv_at hl 1 rfl) ?_
      refine va_get (D := G.1) (ci := 2) (v := .ref (ta G t (29 + 5 * i))) (C := RX0) (T := TX0) (N := 12) hx hb hts (fun w9 h9 => List.mem_cons_of_mem _ (List.mem_append_right _ (h9))) hown hK hP (1 + 67 * t + (27 + 5 * i)) (tw_O G Z ht τ (by omega)) rfl 1 (by decide) (hts (.fieldLink RX0 15 "OrganCensus$Organ" "wear" "[I") (List.mem_of_getElem? (i := 1) rfl)) (fun _ h9 => h9) rfl dX0_turn_23 ?_
      refine lv_iload_n hx hb dX0_turn_26 rfl (lv_at hl 0 rfl) ?_
      refine va_iald hx hb hK hP (1 + 67 * t + (29 + 5 * i)) 0 (tw_Ow G Z ht τ (by omega)) rfl (o_vin c6 c12 (by decide) (by decide)) dX0_turn_27 ?_
      refine lv_iconst (v := 1) hx hb dX0_turn_28 (by decide) ?_
      refine lv_iadd hx hb dX0_turn_29 ?_
      refine va_mmin (rest := [.int (oNT τ i), .ref (ta G t (29 + 5 * i))]) hx hb (hml.trans hl.1.symm) hown (hts (.methodLink RX0 55 Lib.Math.min.name) (List.mem_of_getElem? (i := 2) rfl)) (hts (.static Lib.Math.min.name) (List.mem_of_getElem? (i := 3) rfl)) (hts (.initialized "java/lang/Math") (List.mem_of_getElem? (i := 4) rfl)) (hts (.code Lib.Math.min.name Lib.Math.min.code 2 (some .int)) (List.mem_of_getElem? (i := 5) rfl)) (Nat.le_of_ble_eq_true rfl) (Nat.le_of_ble_eq_true rfl) (Nat.zero_le _) (Nat.zero_le _) dX0_turn_30 ?_
      change W _ _ _ _ _ _ _ _ _ _ _ _ _ _ _ (F0 m 33 ls (.int (o_min 90 ((τ 7 i ((oNT τ i).toNatClampNeg)) + 1)) :: _))
      refine va_iast hx hb hK hP (tw_D G Z t _ hI) hS (1 + 67 * t + (29 + 5 * i)) 0 (tw_Ow G Z ht τ (by omega)) rfl (o_vin c6 c12 (by decide) (by decide)) dX0_turn_33 (fun H locs hP hD hS => ?_)
      have hP : va_P G.1 vwCl (tw G Z t (su τ 7 i ((oNT τ i).toNatClampNeg) (o_min 90 ((τ 7 i ((oNT τ i).toNatClampNeg)) + 1)))) H := by rw [← tw_uO7 G Z ht τ (by omega) ((oNT τ i).toNatClampNeg) (o_min 90 ((τ 7 i ((oNT τ i).toNatClampNeg)) + 1))]; exact hP
      clear hD
      exact jn34  _ (by simp [oTurn1, c6, c12]) _ _ hP hS ls (lv_sub hl [1] rfl)
set_option maxHeartbeats 4000000 in
set_option maxRecDepth 100000 in
theorem m_X0_anHourLess (l : Launch) (G : oG) (Z : oZ) {t : Nat} (ht : t < 2) (hI : wl_I G.2.1 137) (τ : oT) (i : Nat) (hi : i < 8) : Met l yX0_anHourLess wsX0_anHourLess ({ frames := 0, cells := 0, slots := 0, locals := 0 } : Room) (va_Pc [.ref (ta G t (27 + 5 * i))] (PW G (tw G Z t τ))) (oQ none (fun H9 => va_P G.1 vwCl (tw G Z t (oHl τ i 6)) H9) (oA G)) 0 0 (oA G) := by
  refine o_body (cc := cX0_anHourLess) (by decide +kernel) rfl (Nat.le_of_ble_eq_true rfl) ?_
  intro p e s m below meth c ls hx hb hml hr hlocks hown hts hP hK hN hl
  have hown : s.vm.findClass RX0 = some m.cls := hown
  have hl : lv_has ls 2 [(0, .ref (ta G t (27 + 5 * i)))] := hl
  have hS : va_S (oA G) s.heap s.heap [] := va_S.rf
  have jn17 : ∀ (τ17 : oT), τ17 = (oHl τ i 0) → ∀ (H : Heap) (locs : List Loc), va_P G.1 vwCl (tw G Z t τ17) H → va_S (oA G) s.heap H locs → ∀ ls : Array Slot, lv_has ls 2 [(0, .ref (ta G t (27 + 5 * i)))] → W p l e ({ frames := 0, cells := 0, slots := 0, locals := 0 } : Room) s m ([.ref (ta G t (27 + 5 * i))] : List Value).toArray below meth c H locs 0 0 (MQ below (oQ none (fun H9 => va_P G.1 vwCl (tw G Z t (oHl τ i 6)) H9) (oA G)) ([.ref (ta G t (27 + 5 * i))] : List Value).toArray s 0 0 (oA G)) (F0 m 17 ls []) := by
    intro  τ17 eτ17 H locs hP hS ls hl
    subst eτ17
    refine lv_iconst (v := 0) hx hb dX0_anHourLess_17 (by decide) ?_
    refine lv_istore_n (lv' := [(1, .int 0), (0, .ref (ta G t (27 + 5 * i)))]) hx hb dX0_anHourLess_18 rfl hl (by decide) rfl (fun ls hl => ?_)
    have lp19 : ∀ (d19 k : Nat), k + d19 = 6 → ∀ x19_1 : Int32, x19_1 = (nI k) → ∀ (τ19 : oT), τ19 = (oHl τ i k) → ∀ (H : Heap) (locs : List Loc), va_P G.1 vwCl (tw G Z t τ19) H → va_S (oA G) s.heap H locs → ∀ ls : Array Slot, lv_has ls 2 [(0, .ref (ta G t (27 + 5 * i))), (1, .int x19_1)] → W p l e ({ frames := 0, cells := 0, slots := 0, locals := 0 } : Room) s m ([.ref (ta G t (27 + 5 * i))] : List Value).toArray below meth c H locs 0 0 (MQ below (oQ none (fun H9 => va_P G.1 vwCl (tw G Z t (oHl τ i 6)) H9) (oA G)) ([.ref (ta G t (27 + 5 * i))] : List Value).toArray s 0 0 (oA G)) (F0 m 19 ls []) := by
      intro d19
      induction d19 with
      | zero =>
        intro k hk19 x19_1 e19_1 τ19 eτ19 H locs hP hS ls hl
        subst e19_1
        subst eτ19
        have hk19 : k = 6 := by omega
        refine lv_iload_n hx hb dX0_anHourLess_19 rfl (lv_at hl 1 rfl) ?_
        refine lv_bipush (v := 6) hx hb dX0_anHourLess_20 (by decide) ?_
        refine lv_icmp_ge (tgt := 50) hx hb dX0_anHourLess_22 (by decide) (fun c22 => ?_) (fun c22 => ?_)
        · have n22 := (o_nle (a := 6) (b := k) (by decide) rfl (by omega) (by omega)).mp c22
          exact o_vretM hx hb hr hlocks hS dX0_anHourLess_50 (by subst hk19; exact hP)
        · have n22 := (mt (o_nle (a := 6) (b := k) (by decide) rfl (by omega) (by omega)).mpr) c22; omega
      | succ d19 ih19 =>
        intro k hk19 x19_1 e19_1 τ19 eτ19 H locs hP hS ls hl
        subst e19_1
        subst eτ19
        have hj19 : k < 6 := by omega
        refine lv_iload_n hx hb dX0_anHourLess_19 rfl (lv_at hl 1 rfl) ?_
        refine lv_bipush (v := 6) hx hb dX0_anHourLess_20 (by decide) ?_
        refine lv_icmp_ge (tgt := 50) hx hb dX0_anHourLess_22 (by decide) (fun c22 => ?_) (fun c22 => ?_)
        · have n22 := (o_nle (a := 6) (b := k) (by decide) rfl (by omega) (by omega)).mp c22; omega
        · have n22 := (mt (o_nle (a := 6) (b := k) (by decide) rfl (by omega) (by omega)).mpr) c22
          refine lv_aload_n hx hb dX0_anHourLess_25 rfl (lv_at hl 0 rfl) ?_
          refine va_get (D := G.1) (ci := 2) (v := .ref (ta G t (31 + 5 * i))) (C := RX0) (T := TX0) (N := 12) hx hb hts (fun w9 h9 => List.mem_cons_of_mem _ (List.mem_append_right _ (h9))) hown hK hP (1 + 67 * t + (27 + 5 * i)) (tw_O G Z ht (oHl τ i k) (by omega)) rfl 3 (by decide) (hts (.fieldLink RX0 21 "OrganCensus$Organ" "banishedHours" "[I") (List.mem_of_getElem? (i := 2) rfl)) (fun _ h9 => h9) rfl dX0_anHourLess_26 ?_
          refine lv_iload_n hx hb dX0_anHourLess_29 rfl (lv_at hl 1 rfl) ?_
          refine o_iald (k := k) hx hb hK hP (1 + 67 * t + (31 + 5 * i)) 0 (tw_Ob G Z ht (oHl τ i k) (by omega)) rfl rfl (by omega) (by decide) dX0_anHourLess_30 ?_
          refine lv_if_le (tgt := 44) hx hb dX0_anHourLess_31 (by decide) (fun c31 => ?_) (fun c31 => ?_)
          · refine lv_iinc (v := nI (k + 1)) (lv' := [(1, .int (nI (k + 1))), (0, .ref (ta G t (27 + 5 * i)))]) hx hb dX0_anHourLess_44 hl (k := 1) rfl (nI_1 k) (by decide) rfl (fun ls hl => ?_)
            refine lv_goto (tgt := 19) hx hb dX0_anHourLess_47 (by decide) ?_
            exact ih19 (k + 1) (by omega) _ (rfl) _ (by simp [oHl, c22, c31]) _ _ hP hS ls (lv_sub hl [1, 0] rfl)
          · refine lv_aload_n hx hb dX0_anHourLess_34 rfl (lv_at hl 0 rfl) ?_
            refine va_get (D := G.1) (ci := 2) (v := .ref (ta G t (31 + 5 * i))) (C := RX0) (T := TX0) (N := 12) hx hb hts (fun w9 h9 => List.mem_cons_of_mem _ (List.mem_append_right _ (h9))) hown hK hP (1 + 67 * t + (27 + 5 * i)) (tw_O G Z ht (oHl τ i k) (by omega)) rfl 3 (by decide) (hts (.fieldLink RX0 21 "OrganCensus$Organ" "banishedHours" "[I") (List.mem_of_getElem? (i := 2) rfl)) (fun _ h9 => h9) rfl dX0_anHourLess_35 ?_
            refine lv_iload_n hx hb dX0_anHourLess_38 rfl (lv_at hl 1 rfl) ?_
            refine lv_dup2_11 hx hb dX0_anHourLess_39 rfl rfl ?_
            refine o_iald (k := k) hx hb hK hP (1 + 67 * t + (31 + 5 * i)) 0 (tw_Ob G Z ht (oHl τ i k) (by omega)) rfl rfl (by omega) (by decide) dX0_anHourLess_40 ?_
            refine lv_iconst (v := 1) hx hb dX0_anHourLess_41 (by decide) ?_
            refine lv_isub hx hb dX0_anHourLess_42 ?_
            refine o_iast (k := k) hx hb hK hP (tw_D G Z t _ hI) hS (1 + 67 * t + (31 + 5 * i)) 0 (tw_Ob G Z ht (oHl τ i k) (by omega)) rfl rfl (by omega) (by decide) dX0_anHourLess_43 (fun H locs hP hD hS => ?_)
            have hP : va_P G.1 vwCl (tw G Z t (su (oHl τ i k) 9 i k (((oHl τ i k) 9 i k) - 1))) H := by rw [← tw_uO9 G Z ht (oHl τ i k) (by omega) k (((oHl τ i k) 9 i k) - 1)]; exact hP
            clear hD
            refine lv_iinc (v := nI (k + 1)) (lv' := [(1, .int (nI (k + 1))), (0, .ref (ta G t (27 + 5 * i)))]) hx hb dX0_anHourLess_44 hl (k := 1) rfl (nI_1 k) (by decide) rfl (fun ls hl => ?_)
            refine lv_goto (tgt := 19) hx hb dX0_anHourLess_47 (by decide) ?_
            exact ih19 (k + 1) (by omega) _ (rfl) _ (by simp [oHl, c22, c31]) _ _ hP hS ls (lv_sub hl [1, 0] rfl)
    exact lp19 (6) 0 (by omega) _ (rfl) _ (rfl) _ _ hP hS ls (lv_sub hl [1, 0] rfl)
  refine lv_aload_n hx hb dX0_anHourLess_0 rfl (lv_at hl 0 rfl) ?_
  refine va_get (D := G.1) (ci := 2) (v := .int (τ 12 i 0)) (C := RX0) (T := TX0) (N := 12) hx hb hts (fun w9 h9 => List.mem_cons_of_mem _ (List.mem_append_right _ (h9))) hown hK hP (1 + 67 * t + (27 + 5 * i)) (tw_O G Z ht τ (by omega)) rfl 6 (by decide) (hts (.fieldLink RX0 37 "OrganCensus$Organ" "hoursToGo" "I") (List.mem_of_getElem? (i := 1) rfl)) (fun _ h9 => h9) rfl dX0_anHourLess_1 ?_
  refine lv_if_le (tgt := 17) hx hb dX0_anHourLess_4 (by decide) (fun c4 => ?_) (fun c4 => ?_)
  · exact jn17  _ (by simp [oHl, c4]) _ _ hP hS ls (lv_sub hl [0] rfl)
  · refine lv_aload_n hx hb dX0_anHourLess_7 rfl (lv_at hl 0 rfl) ?_
    refine lv_dup hx hb dX0_anHourLess_8 rfl ?_
    refine va_get (D := G.1) (ci := 2) (v := .int (τ 12 i 0)) (C := RX0) (T := TX0) (N := 12) hx hb hts (fun w9 h9 => List.mem_cons_of_mem _ (List.mem_append_right _ (h9))) hown hK hP (1 + 67 * t + (27 + 5 * i)) (tw_O G Z ht τ (by omega)) rfl 6 (by decide) (hts (.fieldLink RX0 37 "OrganCensus$Organ" "hoursToGo" "I") (List.mem_of_getElem? (i := 1) rfl)) (fun _ h9 => h9) rfl dX0_anHourLess_9 ?_
    refine lv_iconst (v := 1) hx hb dX0_anHourLess_12 (by decide) ?_
    refine lv_isub hx hb dX0_anHourLess_13 ?_
    refine va_put (D := G.1) (ci := 2) (v := .int ((τ 12 i 0) - 1)) (ty := .int) (C := RX0) (T := TX0) (N := 12) hx hb hts (fun w9 h9 => List.mem_cons_of_mem _ (List.mem_append_right _ (h9))) tyX0 tyX0_ok nmX0 hown hK hP (tw_D G Z t _ hI) hS (1 + 67 * t + (27 + 5 * i)) (tw_O G Z ht τ (by omega)) rfl 6 (by decide) (hts (.fieldLink RX0 37 "OrganCensus$Organ" "hoursToGo" "I") (List.mem_of_getElem? (i := 1) rfl)) (fun _ h9 => h9) rfl (by decide +kernel) rfl rfl (Nat.le_of_ble_eq_true rfl) dX0_anHourLess_14 (fun H locs hP hD hS => ?_)
    have hP : va_P G.1 vwCl (tw G Z t (su τ 12 i 0 ((τ 12 i 0) - 1))) H := by rw [← tw_uO12 G Z ht τ (by omega) ((τ 12 i 0) - 1)]; exact hP
    clear hD
    exact jn17  _ (by simp [oHl, c4]) _ _ hP hS ls (lv_sub hl [0] rfl)
set_option maxHeartbeats 4000000 in
set_option maxRecDepth 100000 in
theorem m_X0_complaintsInAll (l : Launch) (G : oG) (Z : oZ) {t : Nat} (ht : t < 2) (τ : oT) (i : Nat) (hi : i < 8) : Met l yX0_complaintsInAll wsX0_complaintsInAll ({ frames := 0, cells := 0, slots := 0, locals := 0 } : Room) (va_Pc [.ref (ta G t (27 + 5 * i))] (PW G (tw G Z t τ))) (oR (some (.int (oCA τ i 6)))) 0 0 (fun _ => False) := by
  refine o_body (cc := cX0_complaintsInAll) (by decide +kernel) rfl (Nat.le_of_ble_eq_true rfl) ?_
  intro p e s m below meth c ls hx hb hml hr hlocks hown hts hP hK hN hl
  have hown : s.vm.findClass RX0 = some m.cls := hown
  have hl : lv_has ls 3 [(0, .ref (ta G t (27 + 5 * i)))] := hl
  refine lv_iconst (v := 0) hx hb dX0_complaintsInAll_0 (by decide) ?_
  refine lv_istore_n (lv' := [(1, .int 0), (0, .ref (ta G t (27 + 5 * i)))]) hx hb dX0_complaintsInAll_1 rfl hl (by decide) rfl (fun ls hl => ?_)
  refine lv_iconst (v := 0) hx hb dX0_complaintsInAll_2 (by decide) ?_
  refine lv_istore_n (lv' := [(2, .int 0), (1, .int 0), (0, .ref (ta G t (27 + 5 * i)))]) hx hb dX0_complaintsInAll_3 rfl hl (by decide) rfl (fun ls hl => ?_)
  have lp4 : ∀ (d4 k : Nat), k + d4 = 6 → ∀ x4_1 : Int32, x4_1 = (oCA τ i k) → ∀ x4_2 : Int32, x4_2 = (nI k) → ∀ ls : Array Slot, lv_has ls 3 [(0, .ref (ta G t (27 + 5 * i))), (1, .int x4_1), (2, .int x4_2)] → W p l e ({ frames := 0, cells := 0, slots := 0, locals := 0 } : Room) s m ([.ref (ta G t (27 + 5 * i))] : List Value).toArray below meth c s.heap [] 0 0 (MQ below (oR (some (.int (oCA τ i 6)))) ([.ref (ta G t (27 + 5 * i))] : List Value).toArray s 0 0 (fun _ => False)) (F0 m 4 ls []) := by
    intro d4
    induction d4 with
    | zero =>
      intro k hk4 x4_1 e4_1 x4_2 e4_2 ls hl
      subst e4_1
      subst e4_2
      have hk4 : k = 6 := by omega
      refine lv_iload_n hx hb dX0_complaintsInAll_4 rfl (lv_at hl 2 rfl) ?_
      refine lv_bipush (v := 6) hx hb dX0_complaintsInAll_5 (by decide) ?_
      refine lv_icmp_ge (tgt := 25) hx hb dX0_complaintsInAll_7 (by decide) (fun c7 => ?_) (fun c7 => ?_)
      · have n7 := (o_nle (a := 6) (b := k) (by decide) rfl (by omega) (by omega)).mp c7
        refine lv_iload_n hx hb dX0_complaintsInAll_25 rfl (lv_at hl 1 rfl) ?_
        exact o_iretR hx hb hr hlocks dX0_complaintsInAll_26 (by rw [hk4])
      · have n7 := (mt (o_nle (a := 6) (b := k) (by decide) rfl (by omega) (by omega)).mpr) c7; omega
    | succ d4 ih4 =>
      intro k hk4 x4_1 e4_1 x4_2 e4_2 ls hl
      subst e4_1
      subst e4_2
      have hj4 : k < 6 := by omega
      refine lv_iload_n hx hb dX0_complaintsInAll_4 rfl (lv_at hl 2 rfl) ?_
      refine lv_bipush (v := 6) hx hb dX0_complaintsInAll_5 (by decide) ?_
      refine lv_icmp_ge (tgt := 25) hx hb dX0_complaintsInAll_7 (by decide) (fun c7 => ?_) (fun c7 => ?_)
      · have n7 := (o_nle (a := 6) (b := k) (by decide) rfl (by omega) (by omega)).mp c7; omega
      · have n7 := (mt (o_nle (a := 6) (b := k) (by decide) rfl (by omega) (by omega)).mpr) c7
        refine lv_iload_n hx hb dX0_complaintsInAll_10 rfl (lv_at hl 1 rfl) ?_
        refine lv_aload_n hx hb dX0_complaintsInAll_11 rfl (lv_at hl 0 rfl) ?_
        refine va_get (D := G.1) (ci := 2) (v := .ref (ta G t (30 + 5 * i))) (C := RX0) (T := TX0) (N := 12) hx hb hts (fun w9 h9 => List.mem_cons_of_mem _ (List.mem_append_right _ (h9))) hown hK hP (1 + 67 * t + (27 + 5 * i)) (tw_O G Z ht τ (by omega)) rfl 2 (by decide) (hts (.fieldLink RX0 18 "OrganCensus$Organ" "complaints" "[I") (List.mem_of_getElem? (i := 1) rfl)) (fun _ h9 => h9) rfl dX0_complaintsInAll_12 ?_
        refine lv_iload_n hx hb dX0_complaintsInAll_15 rfl (lv_at hl 2 rfl) ?_
        refine o_iald (k := k) hx hb hK hP (1 + 67 * t + (30 + 5 * i)) 0 (tw_Oc G Z ht τ (by omega)) rfl rfl (by omega) (by decide) dX0_complaintsInAll_16 ?_
        refine lv_iadd hx hb dX0_complaintsInAll_17 ?_
        refine lv_istore_n (lv' := [(1, .int ((oCA τ i k) + (τ 8 i k))), (0, .ref (ta G t (27 + 5 * i))), (2, .int (nI k))]) hx hb dX0_complaintsInAll_18 rfl hl (by decide) rfl (fun ls hl => ?_)
        refine lv_iinc (v := nI (k + 1)) (lv' := [(2, .int (nI (k + 1))), (1, .int ((oCA τ i k) + (τ 8 i k))), (0, .ref (ta G t (27 + 5 * i)))]) hx hb dX0_complaintsInAll_19 hl (k := 2) rfl (nI_1 k) (by decide) rfl (fun ls hl => ?_)
        refine lv_goto (tgt := 4) hx hb dX0_complaintsInAll_22 (by decide) ?_
        exact ih4 (k + 1) (by omega) _ (rfl) _ (rfl) ls (lv_sub hl [2, 1, 0] rfl)
  exact lp4 (6) 0 (by omega) _ (rfl) _ (rfl) ls (lv_sub hl [2, 1, 0] rfl)
set_option maxHeartbeats 4000000 in
set_option maxRecDepth 100000 in
theorem m_X0_banishedStreets (l : Launch) (G : oG) (Z : oZ) {t : Nat} (ht : t < 2) (τ : oT) (i : Nat) (hi : i < 8) : Met l yX0_banishedStreets wsX0_banishedStreets ({ frames := 0, cells := 0, slots := 0, locals := 0 } : Room) (va_Pc [.ref (ta G t (27 + 5 * i))] (PW G (tw G Z t τ))) (oR (some (.int (oBS τ i 6)))) 0 0 (fun _ => False) := by
  refine o_body (cc := cX0_banishedStreets) (by decide +kernel) rfl (Nat.le_of_ble_eq_true rfl) ?_
  intro p e s m below meth c ls hx hb hml hr hlocks hown hts hP hK hN hl
  have hown : s.vm.findClass RX0 = some m.cls := hown
  have hl : lv_has ls 3 [(0, .ref (ta G t (27 + 5 * i)))] := hl
  refine lv_iconst (v := 0) hx hb dX0_banishedStreets_0 (by decide) ?_
  refine lv_istore_n (lv' := [(1, .int 0), (0, .ref (ta G t (27 + 5 * i)))]) hx hb dX0_banishedStreets_1 rfl hl (by decide) rfl (fun ls hl => ?_)
  refine lv_iconst (v := 0) hx hb dX0_banishedStreets_2 (by decide) ?_
  refine lv_istore_n (lv' := [(2, .int 0), (1, .int 0), (0, .ref (ta G t (27 + 5 * i)))]) hx hb dX0_banishedStreets_3 rfl hl (by decide) rfl (fun ls hl => ?_)
  have lp4 : ∀ (d4 k : Nat), k + d4 = 6 → ∀ x4_1 : Int32, x4_1 = (oBS τ i k) → ∀ x4_2 : Int32, x4_2 = (nI k) → ∀ ls : Array Slot, lv_has ls 3 [(0, .ref (ta G t (27 + 5 * i))), (1, .int x4_1), (2, .int x4_2)] → W p l e ({ frames := 0, cells := 0, slots := 0, locals := 0 } : Room) s m ([.ref (ta G t (27 + 5 * i))] : List Value).toArray below meth c s.heap [] 0 0 (MQ below (oR (some (.int (oBS τ i 6)))) ([.ref (ta G t (27 + 5 * i))] : List Value).toArray s 0 0 (fun _ => False)) (F0 m 4 ls []) := by
    intro d4
    induction d4 with
    | zero =>
      intro k hk4 x4_1 e4_1 x4_2 e4_2 ls hl
      subst e4_1
      subst e4_2
      have hk4 : k = 6 := by omega
      refine lv_iload_n hx hb dX0_banishedStreets_4 rfl (lv_at hl 2 rfl) ?_
      refine lv_bipush (v := 6) hx hb dX0_banishedStreets_5 (by decide) ?_
      refine lv_icmp_ge (tgt := 28) hx hb dX0_banishedStreets_7 (by decide) (fun c7 => ?_) (fun c7 => ?_)
      · have n7 := (o_nle (a := 6) (b := k) (by decide) rfl (by omega) (by omega)).mp c7
        refine lv_iload_n hx hb dX0_banishedStreets_28 rfl (lv_at hl 1 rfl) ?_
        exact o_iretR hx hb hr hlocks dX0_banishedStreets_29 (by rw [hk4])
      · have n7 := (mt (o_nle (a := 6) (b := k) (by decide) rfl (by omega) (by omega)).mpr) c7; omega
    | succ d4 ih4 =>
      intro k hk4 x4_1 e4_1 x4_2 e4_2 ls hl
      subst e4_1
      subst e4_2
      have hj4 : k < 6 := by omega
      refine lv_iload_n hx hb dX0_banishedStreets_4 rfl (lv_at hl 2 rfl) ?_
      refine lv_bipush (v := 6) hx hb dX0_banishedStreets_5 (by decide) ?_
      refine lv_icmp_ge (tgt := 28) hx hb dX0_banishedStreets_7 (by decide) (fun c7 => ?_) (fun c7 => ?_)
      · have n7 := (o_nle (a := 6) (b := k) (by decide) rfl (by omega) (by omega)).mp c7; omega
      · have n7 := (mt (o_nle (a := 6) (b := k) (by decide) rfl (by omega) (by omega)).mpr) c7
        refine lv_aload_n hx hb dX0_banishedStreets_10 rfl (lv_at hl 0 rfl) ?_
        refine va_get (D := G.1) (ci := 2) (v := .ref (ta G t (31 + 5 * i))) (C := RX0) (T := TX0) (N := 12) hx hb hts (fun w9 h9 => List.mem_cons_of_mem _ (List.mem_append_right _ (h9))) hown hK hP (1 + 67 * t + (27 + 5 * i)) (tw_O G Z ht τ (by omega)) rfl 3 (by decide) (hts (.fieldLink RX0 21 "OrganCensus$Organ" "banishedHours" "[I") (List.mem_of_getElem? (i := 1) rfl)) (fun _ h9 => h9) rfl dX0_banishedStreets_11 ?_
        refine lv_iload_n hx hb dX0_banishedStreets_14 rfl (lv_at hl 2 rfl) ?_
        refine o_iald (k := k) hx hb hK hP (1 + 67 * t + (31 + 5 * i)) 0 (tw_Ob G Z ht τ (by omega)) rfl rfl (by omega) (by decide) dX0_banishedStreets_15 ?_
        refine lv_if_le (tgt := 22) hx hb dX0_banishedStreets_16 (by decide) (fun c16 => ?_) (fun c16 => ?_)
        · refine lv_iinc (v := nI (k + 1)) (lv' := [(2, .int (nI (k + 1))), (0, .ref (ta G t (27 + 5 * i))), (1, .int (oBS τ i k))]) hx hb dX0_banishedStreets_22 hl (k := 2) rfl (nI_1 k) (by decide) rfl (fun ls hl => ?_)
          refine lv_goto (tgt := 4) hx hb dX0_banishedStreets_25 (by decide) ?_
          exact ih4 (k + 1) (by omega) _ (by simp [oBS, c7, c16]) _ (rfl) ls (lv_sub hl [1, 2, 0] rfl)
        · refine lv_iinc (v := (oBS τ i k) + 1) (lv' := [(1, .int ((oBS τ i k) + 1)), (0, .ref (ta G t (27 + 5 * i))), (2, .int (nI k))]) hx hb dX0_banishedStreets_19 hl (k := 1) rfl rfl (by decide) rfl (fun ls hl => ?_)
          refine lv_iinc (v := nI (k + 1)) (lv' := [(2, .int (nI (k + 1))), (1, .int ((oBS τ i k) + 1)), (0, .ref (ta G t (27 + 5 * i)))]) hx hb dX0_banishedStreets_22 hl (k := 2) rfl (nI_1 k) (by decide) rfl (fun ls hl => ?_)
          refine lv_goto (tgt := 4) hx hb dX0_banishedStreets_25 (by decide) ?_
          exact ih4 (k + 1) (by omega) _ (by simp [oBS, c7, c16]) _ (rfl) ls (lv_sub hl [2, 1, 0] rfl)
  exact lp4 (6) 0 (by omega) _ (rfl) _ (rfl) ls (lv_sub hl [2, 1, 0] rfl)
set_option maxHeartbeats 4000000 in
set_option maxRecDepth 100000 in
theorem m_X0_fact (l : Launch) (G : oG) (Z : oZ) {t : Nat} (ht : t < 2) (τ : oT) (i : Nat) (hi : i < 8) (w : Nat) (aw : Int32) (ew : aw = nI w) (hw : w < 11) : Met l yX0_fact wsX0_fact ({ frames := 2, cells := 0, slots := 0, locals := 41 } : Room) (va_Pc [.ref (ta G t (27 + 5 * i)), .int aw] (PW G (tw G Z t τ))) (oR (some (.int (oFact τ i w)))) 0 0 (fun _ => False) := by
  subst ew
  refine o_body (cc := cX0_fact) (by decide +kernel) rfl (Nat.le_of_ble_eq_true rfl) ?_
  intro p e s m below meth c ls hx hb hml hr hlocks hown hts hP hK hN hl
  have hown : s.vm.findClass RX0 = some m.cls := hown
  have hl : lv_has ls 2 [(0, .ref (ta G t (27 + 5 * i))), (1, .int (nI w))] := hl
  refine lv_iload_n hx hb dX0_fact_0 rfl (lv_at hl 1 rfl) ?_
  rcases (show w = 0 ∨ w = 1 ∨ w = 2 ∨ w = 3 ∨ w = 4 ∨ w = 5 ∨ w = 6 ∨ w = 7 ∨ w = 8 ∨ w = 9 ∨ w = 10 by omega) with rfl | rfl | rfl | rfl | rfl | rfl | rfl | rfl | rfl | rfl | rfl
  · refine lv_tableIn (off := 55) (tgt := 56) hx hb dX0_fact_1 (by decide) (by decide) (by decide) (by decide) ?_
    refine lv_aload_n hx hb dX0_fact_56 rfl (lv_at hl 0 rfl) ?_
    refine va_get (D := G.1) (ci := 2) (v := .int (τ 10 i 0)) (C := RX0) (T := TX0) (N := 12) hx hb hts (fun w9 h9 => List.mem_cons_of_mem _ (List.mem_append_right _ (h9))) hown hK hP (1 + 67 * t + (27 + 5 * i)) (tw_O G Z ht τ (by omega)) rfl 4 (by decide) (hts (.fieldLink RX0 30 "OrganCensus$Organ" "street" "I") (List.mem_of_getElem? (i := 1) rfl)) (fun _ h9 => h9) rfl dX0_fact_57 ?_
    exact o_iretR hx hb hr hlocks dX0_fact_60 (rfl)
  · refine lv_tableIn (off := 60) (tgt := 61) hx hb dX0_fact_1 (by decide) (by decide) (by decide) (by decide) ?_
    refine lv_aload_n hx hb dX0_fact_61 rfl (lv_at hl 0 rfl) ?_
    refine va_get (D := G.1) (ci := 2) (v := .int (τ 11 i 0)) (C := RX0) (T := TX0) (N := 12) hx hb hts (fun w9 h9 => List.mem_cons_of_mem _ (List.mem_append_right _ (h9))) hown hK hP (1 + 67 * t + (27 + 5 * i)) (tw_O G Z ht τ (by omega)) rfl 5 (by decide) (hts (.fieldLink RX0 34 "OrganCensus$Organ" "pitch" "I") (List.mem_of_getElem? (i := 2) rfl)) (fun _ h9 => h9) rfl dX0_fact_62 ?_
    exact o_iretR hx hb hr hlocks dX0_fact_65 (rfl)
  · refine lv_tableIn (off := 65) (tgt := 66) hx hb dX0_fact_1 (by decide) (by decide) (by decide) (by decide) ?_
    refine lv_aload_n hx hb dX0_fact_66 rfl (lv_at hl 0 rfl) ?_
    refine va_get (D := G.1) (ci := 2) (v := .int (τ 12 i 0)) (C := RX0) (T := TX0) (N := 12) hx hb hts (fun w9 h9 => List.mem_cons_of_mem _ (List.mem_append_right _ (h9))) hown hK hP (1 + 67 * t + (27 + 5 * i)) (tw_O G Z ht τ (by omega)) rfl 6 (by decide) (hts (.fieldLink RX0 37 "OrganCensus$Organ" "hoursToGo" "I") (List.mem_of_getElem? (i := 3) rfl)) (fun _ h9 => h9) rfl dX0_fact_67 ?_
    exact o_iretR hx hb hr hlocks dX0_fact_70 (rfl)
  · refine lv_tableIn (off := 70) (tgt := 71) hx hb dX0_fact_1 (by decide) (by decide) (by decide) (by decide) ?_
    refine lv_aload_n hx hb dX0_fact_71 rfl (lv_at hl 0 rfl) ?_
    refine va_get (D := G.1) (ci := 2) (v := .int (τ 13 i 0)) (C := RX0) (T := TX0) (N := 12) hx hb hts (fun w9 h9 => List.mem_cons_of_mem _ (List.mem_append_right _ (h9))) hown hK hP (1 + 67 * t + (27 + 5 * i)) (tw_O G Z ht τ (by omega)) rfl 7 (by decide) (hts (.fieldLink RX0 40 "OrganCensus$Organ" "loudness" "I") (List.mem_of_getElem? (i := 4) rfl)) (fun _ h9 => h9) rfl dX0_fact_72 ?_
    exact o_iretR hx hb hr hlocks dX0_fact_75 (rfl)
  · refine lv_tableIn (off := 75) (tgt := 76) hx hb dX0_fact_1 (by decide) (by decide) (by decide) (by decide) ?_
    refine lv_aload_n hx hb dX0_fact_76 rfl (lv_at hl 0 rfl) ?_
    refine va_get (D := G.1) (ci := 2) (v := .int (τ 14 i 0)) (C := RX0) (T := TX0) (N := 12) hx hb hts (fun w9 h9 => List.mem_cons_of_mem _ (List.mem_append_right _ (h9))) hown hK hP (1 + 67 * t + (27 + 5 * i)) (tw_O G Z ht τ (by omega)) rfl 8 (by decide) (hts (.fieldLink RX0 43 "OrganCensus$Organ" "coins" "I") (List.mem_of_getElem? (i := 5) rfl)) (fun _ h9 => h9) rfl dX0_fact_77 ?_
    exact o_iretR hx hb hr hlocks dX0_fact_80 (rfl)
  · refine lv_tableIn (off := 80) (tgt := 81) hx hb dX0_fact_1 (by decide) (by decide) (by decide) (by decide) ?_
    refine lv_aload_n hx hb dX0_fact_81 rfl (lv_at hl 0 rfl) ?_
    refine va_get (D := G.1) (ci := 2) (v := .int (τ 15 i 0)) (C := RX0) (T := TX0) (N := 12) hx hb hts (fun w9 h9 => List.mem_cons_of_mem _ (List.mem_append_right _ (h9))) hown hK hP (1 + 67 * t + (27 + 5 * i)) (tw_O G Z ht τ (by omega)) rfl 9 (by decide) (hts (.fieldLink RX0 46 "OrganCensus$Organ" "barrel" "I") (List.mem_of_getElem? (i := 6) rfl)) (fun _ h9 => h9) rfl dX0_fact_82 ?_
    exact o_iretR hx hb hr hlocks dX0_fact_85 (rfl)
  · refine lv_tableIn (off := 85) (tgt := 86) hx hb dX0_fact_1 (by decide) (by decide) (by decide) (by decide) ?_
    refine lv_aload_n hx hb dX0_fact_86 rfl (lv_at hl 0 rfl) ?_
    refine va_get (D := G.1) (ci := 2) (v := .int (τ 17 i 0)) (C := RX0) (T := TX0) (N := 12) hx hb hts (fun w9 h9 => List.mem_cons_of_mem _ (List.mem_append_right _ (h9))) hown hK hP (1 + 67 * t + (27 + 5 * i)) (tw_O G Z ht τ (by omega)) rfl 11 (by decide) (hts (.fieldLink RX0 52 "OrganCensus$Organ" "place" "I") (List.mem_of_getElem? (i := 7) rfl)) (fun _ h9 => h9) rfl dX0_fact_87 ?_
    exact o_iretR hx hb hr hlocks dX0_fact_90 (rfl)
  · refine lv_tableIn (off := 90) (tgt := 91) hx hb dX0_fact_1 (by decide) (by decide) (by decide) (by decide) ?_
    refine lv_aload_n hx hb dX0_fact_91 rfl (lv_at hl 0 rfl) ?_
    refine o_cVi (q0 := 1 + 67 * t + (27 + 5 * i)) (ci := 2) [] [] ⟨hx, hb, hml, hown, hts⟩ (m_X0_nextTune l G Z ht τ i (by omega)) (cwV 0 hts gX0_fact_X0_nextTune rfl rfl rfl (by decide +kernel) ⟨Nat.le_of_ble_eq_true rfl, Nat.le_of_ble_eq_true rfl⟩) hK hN hP rfl rfl (tw_O G Z ht τ (by omega)) rfl hl.1 rfl (Nat.le_of_ble_eq_true rfl) dX0_fact_92 ⟨Nat.zero_le _, Nat.zero_le _⟩ ?_
    exact o_iretR hx hb hr hlocks dX0_fact_95 (rfl)
  · refine lv_tableIn (off := 95) (tgt := 96) hx hb dX0_fact_1 (by decide) (by decide) (by decide) (by decide) ?_
    refine lv_aload_n hx hb dX0_fact_96 rfl (lv_at hl 0 rfl) ?_
    refine o_cVi (q0 := 1 + 67 * t + (27 + 5 * i)) (ci := 2) [] [] ⟨hx, hb, hml, hown, hts⟩ (m_X0_nextWear l G Z ht τ i (by omega)) (cwV 0 hts gX0_fact_X0_nextWear rfl rfl rfl (by decide +kernel) ⟨Nat.le_of_ble_eq_true rfl, Nat.le_of_ble_eq_true rfl⟩) hK hN hP rfl rfl (tw_O G Z ht τ (by omega)) rfl hl.1 rfl (Nat.le_of_ble_eq_true rfl) dX0_fact_97 ⟨Nat.zero_le _, Nat.zero_le _⟩ ?_
    exact o_iretR hx hb hr hlocks dX0_fact_100 (rfl)
  · refine lv_tableIn (off := 100) (tgt := 101) hx hb dX0_fact_1 (by decide) (by decide) (by decide) (by decide) ?_
    refine lv_aload_n hx hb dX0_fact_101 rfl (lv_at hl 0 rfl) ?_
    refine o_cVi (q0 := 1 + 67 * t + (27 + 5 * i)) (ci := 2) [] [] ⟨hx, hb, hml, hown, hts⟩ (m_X0_complaintsInAll l G Z ht τ i (by omega)) (cwV 0 hts gX0_fact_X0_complaintsInAll rfl rfl rfl (by decide +kernel) ⟨Nat.le_of_ble_eq_true rfl, Nat.le_of_ble_eq_true rfl⟩) hK hN hP rfl rfl (tw_O G Z ht τ (by omega)) rfl hl.1 rfl (Nat.le_of_ble_eq_true rfl) dX0_fact_102 ⟨Nat.zero_le _, Nat.zero_le _⟩ ?_
    exact o_iretR hx hb hr hlocks dX0_fact_105 (rfl)
  · refine lv_tableOut (tgt := 106) hx hb dX0_fact_1 (by decide) (by decide) ?_
    refine lv_aload_n hx hb dX0_fact_106 rfl (lv_at hl 0 rfl) ?_
    refine o_cVi (q0 := 1 + 67 * t + (27 + 5 * i)) (ci := 2) [] [] ⟨hx, hb, hml, hown, hts⟩ (m_X0_banishedStreets l G Z ht τ i (by omega)) (cwV 0 hts gX0_fact_X0_banishedStreets rfl rfl rfl (by decide +kernel) ⟨Nat.le_of_ble_eq_true rfl, Nat.le_of_ble_eq_true rfl⟩) hK hN hP rfl rfl (tw_O G Z ht τ (by omega)) rfl hl.1 rfl (Nat.le_of_ble_eq_true rfl) dX0_fact_107 ⟨Nat.zero_le _, Nat.zero_le _⟩ ?_
    exact o_iretR hx hb hr hlocks dX0_fact_110 (rfl)
set_option maxHeartbeats 4000000 in
set_option maxRecDepth 100000 in
theorem m_X0_moveTo (l : Launch) (G : oG) (Z : oZ) {t : Nat} (ht : t < 2) (hI : wl_I G.2.1 137) (τ : oT) (i : Nat) (hi : i < 8) (x : Int32) (y : Int32) (z : Int32) : Met l yX0_moveTo wsX0_moveTo ({ frames := 0, cells := 0, slots := 0, locals := 0 } : Room) (va_Pc [.ref (ta G t (27 + 5 * i)), .int x, .int y, .int z] (PW G (tw G Z t τ))) (oQ none (fun H9 => va_P G.1 vwCl (tw G Z t (oMove τ i x y z)) H9) (oA G)) 0 0 (oA G) := by
  refine o_body (cc := cX0_moveTo) (by decide +kernel) rfl (Nat.le_of_ble_eq_true rfl) ?_
  intro p e s m below meth c ls hx hb hml hr hlocks hown hts hP hK hN hl
  have hown : s.vm.findClass RX0 = some m.cls := hown
  have hl : lv_has ls 4 [(0, .ref (ta G t (27 + 5 * i))), (1, .int x), (2, .int y), (3, .int z)] := hl
  have hS : va_S (oA G) s.heap s.heap [] := va_S.rf
  refine lv_aload_n hx hb dX0_moveTo_0 rfl (lv_at hl 0 rfl) ?_
  refine lv_iload_n hx hb dX0_moveTo_1 rfl (lv_at hl 1 rfl) ?_
  refine va_put (D := G.1) (ci := 2) (v := .int x) (ty := .int) (C := RX0) (T := TX0) (N := 12) hx hb hts (fun w9 h9 => List.mem_cons_of_mem _ (List.mem_append_right _ (h9))) tyX0 tyX0_ok nmX0 hown hK hP (tw_D G Z t _ hI) hS (1 + 67 * t + (27 + 5 * i)) (tw_O G Z ht τ (by omega)) rfl 4 (by decide) (hts (.fieldLink RX0 30 "OrganCensus$Organ" "street" "I") (List.mem_of_getElem? (i := 1) rfl)) (fun _ h9 => h9) rfl (by decide +kernel) rfl rfl (Nat.le_of_ble_eq_true rfl) dX0_moveTo_2 (fun H locs hP hD hS => ?_)
  have hP : va_P G.1 vwCl (tw G Z t (su τ 10 i 0 x)) H := by rw [← tw_uO10 G Z ht τ (by omega) x]; exact hP
  clear hD
  refine lv_aload_n hx hb dX0_moveTo_5 rfl (lv_at hl 0 rfl) ?_
  refine lv_iload_n hx hb dX0_moveTo_6 rfl (lv_at hl 2 rfl) ?_
  refine va_put (D := G.1) (ci := 2) (v := .int y) (ty := .int) (C := RX0) (T := TX0) (N := 12) hx hb hts (fun w9 h9 => List.mem_cons_of_mem _ (List.mem_append_right _ (h9))) tyX0 tyX0_ok nmX0 hown hK hP (tw_D G Z t _ hI) hS (1 + 67 * t + (27 + 5 * i)) (tw_O G Z ht (su τ 10 i 0 x) (by omega)) rfl 5 (by decide) (hts (.fieldLink RX0 34 "OrganCensus$Organ" "pitch" "I") (List.mem_of_getElem? (i := 2) rfl)) (fun _ h9 => h9) rfl (by decide +kernel) rfl rfl (Nat.le_of_ble_eq_true rfl) dX0_moveTo_7 (fun H locs hP hD hS => ?_)
  have hP : va_P G.1 vwCl (tw G Z t (su (su τ 10 i 0 x) 11 i 0 y)) H := by rw [← tw_uO11 G Z ht (su τ 10 i 0 x) (by omega) y]; exact hP
  clear hD
  refine lv_aload_n hx hb dX0_moveTo_10 rfl (lv_at hl 0 rfl) ?_
  refine lv_iload_n hx hb dX0_moveTo_11 rfl (lv_at hl 3 rfl) ?_
  refine va_put (D := G.1) (ci := 2) (v := .int z) (ty := .int) (C := RX0) (T := TX0) (N := 12) hx hb hts (fun w9 h9 => List.mem_cons_of_mem _ (List.mem_append_right _ (h9))) tyX0 tyX0_ok nmX0 hown hK hP (tw_D G Z t _ hI) hS (1 + 67 * t + (27 + 5 * i)) (tw_O G Z ht (su (su τ 10 i 0 x) 11 i 0 y) (by omega)) rfl 6 (by decide) (hts (.fieldLink RX0 37 "OrganCensus$Organ" "hoursToGo" "I") (List.mem_of_getElem? (i := 3) rfl)) (fun _ h9 => h9) rfl (by decide +kernel) rfl rfl (Nat.le_of_ble_eq_true rfl) dX0_moveTo_12 (fun H locs hP hD hS => ?_)
  have hP : va_P G.1 vwCl (tw G Z t (su (su (su τ 10 i 0 x) 11 i 0 y) 12 i 0 z)) H := by rw [← tw_uO12 G Z ht (su (su τ 10 i 0 x) 11 i 0 y) (by omega) z]; exact hP
  clear hD
  exact o_vretM hx hb hr hlocks hS dX0_moveTo_15 (hP)
set_option maxHeartbeats 4000000 in
set_option maxRecDepth 100000 in
theorem m_X0_hoursTo (l : Launch) (G : oG) (Z : oZ) {t : Nat} (ht : t < 2) (τ : oT) (i : Nat) (hi : i < 8) (x : Int32) (y : Int32) : Met l yX0_hoursTo wsX0_hoursTo ({ frames := 1, cells := 0, slots := 0, locals := 21 } : Room) (va_Pc [.ref (ta G t (27 + 5 * i)), .int x, .int y] (PW G (tw G Z t τ))) (oR (some (.int (oTo τ i x y)))) 0 0 (fun _ => False) := by
  refine o_body (cc := cX0_hoursTo) (by decide +kernel) rfl (Nat.le_of_ble_eq_true rfl) ?_
  intro p e s m below meth c ls hx hb hml hr hlocks hown hts hP hK hN hl
  have hown : s.vm.findClass RX0 = some m.cls := hown
  have hl : lv_has ls 3 [(0, .ref (ta G t (27 + 5 * i))), (1, .int x), (2, .int y)] := hl
  refine lv_iload_n hx hb dX0_hoursTo_0 rfl (lv_at hl 1 rfl) ?_
  refine lv_aload_n hx hb dX0_hoursTo_1 rfl (lv_at hl 0 rfl) ?_
  refine va_get (D := G.1) (ci := 2) (v := .int (τ 10 i 0)) (C := RX0) (T := TX0) (N := 12) hx hb hts (fun w9 h9 => List.mem_cons_of_mem _ (List.mem_append_right _ (h9))) hown hK hP (1 + 67 * t + (27 + 5 * i)) (tw_O G Z ht τ (by omega)) rfl 4 (by decide) (hts (.fieldLink RX0 30 "OrganCensus$Organ" "street" "I") (List.mem_of_getElem? (i := 1) rfl)) (fun _ h9 => h9) rfl dX0_hoursTo_2 ?_
  refine lv_icmp_ne (tgt := 20) hx hb dX0_hoursTo_5 (by decide) (fun c5 => ?_) (fun c5 => ?_)
  · refine lv_iconst (v := 2) hx hb dX0_hoursTo_20 (by decide) ?_
    refine lv_iload_n hx hb dX0_hoursTo_21 rfl (lv_at hl 1 rfl) ?_
    refine lv_aload_n hx hb dX0_hoursTo_22 rfl (lv_at hl 0 rfl) ?_
    refine va_get (D := G.1) (ci := 2) (v := .int (τ 10 i 0)) (C := RX0) (T := TX0) (N := 12) hx hb hts (fun w9 h9 => List.mem_cons_of_mem _ (List.mem_append_right _ (h9))) hown hK hP (1 + 67 * t + (27 + 5 * i)) (tw_O G Z ht τ (by omega)) rfl 4 (by decide) (hts (.fieldLink RX0 30 "OrganCensus$Organ" "street" "I") (List.mem_of_getElem? (i := 1) rfl)) (fun _ h9 => h9) rfl dX0_hoursTo_23 ?_
    refine lv_isub hx hb dX0_hoursTo_26 ?_
    refine va_mabs (rest := [.int 2]) hx hb (hml.trans hl.1.symm) hown (hts (.methodLink RX0 67 Lib.Math.abs.name) (List.mem_of_getElem? (i := 3) rfl)) (hts (.static Lib.Math.abs.name) (List.mem_of_getElem? (i := 4) rfl)) (hts (.initialized "java/lang/Math") (List.mem_of_getElem? (i := 5) rfl)) (hts (.code Lib.Math.abs.name Lib.Math.abs.code 1 (some .int)) (List.mem_of_getElem? (i := 6) rfl)) (Nat.le_of_ble_eq_true rfl) (Nat.le_of_ble_eq_true rfl) (Nat.zero_le _) (Nat.zero_le _) dX0_hoursTo_27 ?_
    change W _ _ _ _ _ _ _ _ _ _ _ _ _ _ _ (F0 m 30 ls (.int (o_abs (x - (τ 10 i 0))) :: _))
    refine lv_imul hx hb dX0_hoursTo_30 ?_
    exact o_iretR hx hb hr hlocks dX0_hoursTo_31 (by simp [oTo, c5])
  · refine lv_iload_n hx hb dX0_hoursTo_8 rfl (lv_at hl 2 rfl) ?_
    refine lv_aload_n hx hb dX0_hoursTo_9 rfl (lv_at hl 0 rfl) ?_
    refine va_get (D := G.1) (ci := 2) (v := .int (τ 11 i 0)) (C := RX0) (T := TX0) (N := 12) hx hb hts (fun w9 h9 => List.mem_cons_of_mem _ (List.mem_append_right _ (h9))) hown hK hP (1 + 67 * t + (27 + 5 * i)) (tw_O G Z ht τ (by omega)) rfl 5 (by decide) (hts (.fieldLink RX0 34 "OrganCensus$Organ" "pitch" "I") (List.mem_of_getElem? (i := 2) rfl)) (fun _ h9 => h9) rfl dX0_hoursTo_10 ?_
    refine lv_isub hx hb dX0_hoursTo_13 ?_
    refine va_mabs (rest := []) hx hb (hml.trans hl.1.symm) hown (hts (.methodLink RX0 67 Lib.Math.abs.name) (List.mem_of_getElem? (i := 3) rfl)) (hts (.static Lib.Math.abs.name) (List.mem_of_getElem? (i := 4) rfl)) (hts (.initialized "java/lang/Math") (List.mem_of_getElem? (i := 5) rfl)) (hts (.code Lib.Math.abs.name Lib.Math.abs.code 1 (some .int)) (List.mem_of_getElem? (i := 6) rfl)) (Nat.le_of_ble_eq_true rfl) (Nat.le_of_ble_eq_true rfl) (Nat.zero_le _) (Nat.zero_le _) dX0_hoursTo_14 ?_
    change W _ _ _ _ _ _ _ _ _ _ _ _ _ _ _ (F0 m 17 ls (.int (o_abs (y - (τ 11 i 0))) :: _))
    refine lv_iconst (v := 5) hx hb dX0_hoursTo_17 (by decide) ?_
    refine lv_idiv hx hb dX0_hoursTo_18 (by decide) ?_
    exact o_iretR hx hb hr hlocks dX0_hoursTo_19 (by simp [oTo, c5])
set_option maxHeartbeats 4000000 in
set_option maxRecDepth 100000 in
theorem m_X2_tire (l : Launch) (G : oG) (Z : oZ) {t : Nat} (ht : t < 2) (hI : wl_I G.2.1 137) (τ : oT) (r : Nat) (hr6 : r < 6) (u : Nat) (au : Int32) (eu : au = nI u) (hu : u < 6) (b : Bool) : Met l yX2_tire wsX2_tire ({ frames := 1, cells := 0, slots := 0, locals := 21 } : Room) (va_Pc [.ref (ta G t (3 + 4 * r)), .int au, .int (bI b)] (PW G (tw G Z t τ))) (oQ none (fun H9 => va_P G.1 vwCl (tw G Z t (oTire τ r u b)) H9) (oA G)) 0 0 (oA G) := by
  subst eu
  refine o_body (cc := cX2_tire) (by decide +kernel) rfl (Nat.le_of_ble_eq_true rfl) ?_
  intro p e s m below meth c ls hx hb hml hr hlocks hown hts hP hK hN hl
  have hown : s.vm.findClass RX2 = some m.cls := hown
  have hl : lv_has ls 3 [(0, .ref (ta G t (3 + 4 * r))), (1, .int (nI u)), (2, .int (bI b))] := hl
  have hS : va_S (oA G) s.heap s.heap [] := va_S.rf
  refine lv_iload_n hx hb dX2_tire_0 rfl (lv_at hl 2 rfl) ?_
  refine lv_if_eq (tgt := 26) hx hb dX2_tire_1 (by decide) (fun c1 => ?_) (fun c1 => ?_)
  · have c1 := bI_eq.mp c1
    refine lv_aload_n hx hb dX2_tire_26 rfl (lv_at hl 0 rfl) ?_
    refine va_get (D := G.1) (ci := 4) (v := .ref (ta G t (6 + 4 * r))) (C := RX2) (T := TX2) (N := 6) hx hb hts (fun w9 h9 => List.mem_cons_of_mem _ (List.mem_append_right _ (h9))) hown hK hP (1 + 67 * t + (3 + 4 * r)) (tw_S G Z ht τ (by omega)) rfl 2 (by decide) (hts (.fieldLink RX2 18 "OrganCensus$Street" "weariness" "[I") (List.mem_of_getElem? (i := 1) rfl)) (fun _ h9 => h9) rfl dX2_tire_27 ?_
    refine lv_iload_n hx hb dX2_tire_30 rfl (lv_at hl 1 rfl) ?_
    refine lv_iconst (v := 0) hx hb dX2_tire_31 (by decide) ?_
    refine lv_aload_n hx hb dX2_tire_32 rfl (lv_at hl 0 rfl) ?_
    refine va_get (D := G.1) (ci := 4) (v := .ref (ta G t (6 + 4 * r))) (C := RX2) (T := TX2) (N := 6) hx hb hts (fun w9 h9 => List.mem_cons_of_mem _ (List.mem_append_right _ (h9))) hown hK hP (1 + 67 * t + (3 + 4 * r)) (tw_S G Z ht τ (by omega)) rfl 2 (by decide) (hts (.fieldLink RX2 18 "OrganCensus$Street" "weariness" "[I") (List.mem_of_getElem? (i := 1) rfl)) (fun _ h9 => h9) rfl dX2_tire_33 ?_
    refine lv_iload_n hx hb dX2_tire_36 rfl (lv_at hl 1 rfl) ?_
    refine o_iald (k := u) hx hb hK hP (1 + 67 * t + (6 + 4 * r)) 0 (tw_Sw G Z ht τ (by omega)) rfl rfl (by omega) (by decide) dX2_tire_37 ?_
    refine lv_iconst (v := 1) hx hb dX2_tire_38 (by decide) ?_
    refine lv_isub hx hb dX2_tire_39 ?_
    refine va_mmax (rest := [.int (nI u), .ref (ta G t (6 + 4 * r))]) hx hb (hml.trans hl.1.symm) hown (hts (.methodLink RX2 49 Lib.Math.max.name) (List.mem_of_getElem? (i := 6) rfl)) (hts (.static Lib.Math.max.name) (List.mem_of_getElem? (i := 7) rfl)) (hts (.initialized "java/lang/Math") (List.mem_of_getElem? (i := 4) rfl)) (hts (.code Lib.Math.max.name Lib.Math.max.code 2 (some .int)) (List.mem_of_getElem? (i := 8) rfl)) (Nat.le_of_ble_eq_true rfl) (Nat.le_of_ble_eq_true rfl) (Nat.zero_le _) (Nat.zero_le _) dX2_tire_40 ?_
    change W _ _ _ _ _ _ _ _ _ _ _ _ _ _ _ (F0 m 43 ls (.int (o_max 0 ((τ 2 r u) - 1)) :: _))
    refine o_iast (k := u) hx hb hK hP (tw_D G Z t _ hI) hS (1 + 67 * t + (6 + 4 * r)) 0 (tw_Sw G Z ht τ (by omega)) rfl rfl (by omega) (by decide) dX2_tire_43 (fun H locs hP hD hS => ?_)
    have hP : va_P G.1 vwCl (tw G Z t (su τ 2 r u (o_max 0 ((τ 2 r u) - 1)))) H := by rw [← tw_uS2 G Z ht τ (by omega) u (o_max 0 ((τ 2 r u) - 1))]; exact hP
    clear hD
    exact o_vretM hx hb hr hlocks hS dX2_tire_44 (by rw [show oTire τ r u b = _ from by simp [oTire, c1]; rfl]; exact hP)
  · have c1 := bI_ne.mp c1
    refine lv_aload_n hx hb dX2_tire_4 rfl (lv_at hl 0 rfl) ?_
    refine va_get (D := G.1) (ci := 4) (v := .ref (ta G t (6 + 4 * r))) (C := RX2) (T := TX2) (N := 6) hx hb hts (fun w9 h9 => List.mem_cons_of_mem _ (List.mem_append_right _ (h9))) hown hK hP (1 + 67 * t + (3 + 4 * r)) (tw_S G Z ht τ (by omega)) rfl 2 (by decide) (hts (.fieldLink RX2 18 "OrganCensus$Street" "weariness" "[I") (List.mem_of_getElem? (i := 1) rfl)) (fun _ h9 => h9) rfl dX2_tire_5 ?_
    refine lv_iload_n hx hb dX2_tire_8 rfl (lv_at hl 1 rfl) ?_
    refine lv_bipush (v := 9) hx hb dX2_tire_9 (by decide) ?_
    refine lv_aload_n hx hb dX2_tire_11 rfl (lv_at hl 0 rfl) ?_
    refine va_get (D := G.1) (ci := 4) (v := .ref (ta G t (6 + 4 * r))) (C := RX2) (T := TX2) (N := 6) hx hb hts (fun w9 h9 => List.mem_cons_of_mem _ (List.mem_append_right _ (h9))) hown hK hP (1 + 67 * t + (3 + 4 * r)) (tw_S G Z ht τ (by omega)) rfl 2 (by decide) (hts (.fieldLink RX2 18 "OrganCensus$Street" "weariness" "[I") (List.mem_of_getElem? (i := 1) rfl)) (fun _ h9 => h9) rfl dX2_tire_12 ?_
    refine lv_iload_n hx hb dX2_tire_15 rfl (lv_at hl 1 rfl) ?_
    refine o_iald (k := u) hx hb hK hP (1 + 67 * t + (6 + 4 * r)) 0 (tw_Sw G Z ht τ (by omega)) rfl rfl (by omega) (by decide) dX2_tire_16 ?_
    refine lv_iconst (v := 2) hx hb dX2_tire_17 (by decide) ?_
    refine lv_iadd hx hb dX2_tire_18 ?_
    refine va_mmin (rest := [.int (nI u), .ref (ta G t (6 + 4 * r))]) hx hb (hml.trans hl.1.symm) hown (hts (.methodLink RX2 43 Lib.Math.min.name) (List.mem_of_getElem? (i := 2) rfl)) (hts (.static Lib.Math.min.name) (List.mem_of_getElem? (i := 3) rfl)) (hts (.initialized "java/lang/Math") (List.mem_of_getElem? (i := 4) rfl)) (hts (.code Lib.Math.min.name Lib.Math.min.code 2 (some .int)) (List.mem_of_getElem? (i := 5) rfl)) (Nat.le_of_ble_eq_true rfl) (Nat.le_of_ble_eq_true rfl) (Nat.zero_le _) (Nat.zero_le _) dX2_tire_19 ?_
    change W _ _ _ _ _ _ _ _ _ _ _ _ _ _ _ (F0 m 22 ls (.int (o_min 9 ((τ 2 r u) + 2)) :: _))
    refine o_iast (k := u) hx hb hK hP (tw_D G Z t _ hI) hS (1 + 67 * t + (6 + 4 * r)) 0 (tw_Sw G Z ht τ (by omega)) rfl rfl (by omega) (by decide) dX2_tire_22 (fun H locs hP hD hS => ?_)
    have hP : va_P G.1 vwCl (tw G Z t (su τ 2 r u (o_min 9 ((τ 2 r u) + 2)))) H := by rw [← tw_uS2 G Z ht τ (by omega) u (o_min 9 ((τ 2 r u) + 2))]; exact hP
    clear hD
    refine lv_goto (tgt := 44) hx hb dX2_tire_23 (by decide) ?_
    exact o_vretM hx hb hr hlocks hS dX2_tire_44 (by rw [show oTire τ r u b = _ from by simp [oTire, c1]; rfl]; exact hP)
