set_option maxHeartbeats 4000000 in
set_option maxRecDepth 100000 in
theorem m_X5_tunes (l : Launch) (G : oG) (Z : oZ) {o : Nat} (ho : o < 2) (τ : oT) (nS : Nat) (nO : Nat) (nH : Nat) (hz : qOK τ nS nO nH) (i : Nat) (ai : Int32) (ei : ai = nI i) (hi : i < nO) : Met l yX5_tunes wsX5_tunes ({ frames := 0, cells := 0, slots := 0, locals := 0 } : Room) (va_Pc [.ref (ms G o 0), .int ai] (PW G (mtw G Z o τ))) (oR (some (.int (nI (oDg (qB τ i)))))) 0 0 (fun _ => False) := by
  subst ei
  refine o_body (cc := cX5_tunes) (by decide +kernel) rfl (Nat.le_of_ble_eq_true rfl) ?_
  intro p e s m below meth c ls hx hb hml hr hlocks hown hts hP hK hN hl
  have hown : s.vm.findClass RX5 = some m.cls := hown
  have hl : lv_has ls 4 [(0, .ref (ms G o 0)), (1, .int (nI i))] := hl
  obtain ⟨hz1, hz2, hz3, hz4, hz5, hz6, hz7, hz8⟩ := id hz
  have hB := hz8 i hi
  have hB31 : qB τ i < 2 ^ 31 := by have := hB.2.1.1; omega
  refine lv_iconst (v := 0) hx hb dX5_tunes_0 (by decide) ?_
  refine lv_istore_n (lv' := [(2, .int 0), (0, .ref (ms G o 0)), (1, .int (nI i))]) hx hb dX5_tunes_1 rfl hl (by decide) rfl (fun ls hl => ?_)
  refine lv_aload_n hx hb dX5_tunes_2 rfl (lv_at hl 1 rfl) ?_
  refine va_get (D := G.1) (ci := 7) (v := .ref (ms G o 11)) (C := RX5) (T := TX5) (N := 21) hx hb hts (fun w9 h9 => List.mem_cons_of_mem _ (List.mem_append_right _ (h9))) hown hK hP (3 + 18 * o + (0)) (mt_S G Z ho τ) rfl 13 (by decide) (hts (.fieldLink RX5 46 "OrganCensusModel$State" "barrel" "[I") (List.mem_of_getElem? (i := 1) rfl)) (fun _ h9 => h9) rfl dX5_tunes_3 ?_
  refine lv_iload_n hx hb dX5_tunes_6 rfl (lv_at hl 2 rfl) ?_
  refine o_iald (k := i) hx hb hK hP (3 + 18 * o + (11)) 0 (mt_A11 G Z ho τ) rfl rfl (by omega) (by decide) dX5_tunes_7 ?_
  refine lv_istore_n (lv' := [(3, .int (τ 11 0 i)), (2, .int 0), (0, .ref (ms G o 0)), (1, .int (nI i))]) hx hb dX5_tunes_8 rfl hl (by decide) rfl (fun ls hl => ?_)
  have lp9 : ∀ (d9 k : Nat), k + d9 = oDg (qB τ i) → ∀ x9_2 : Int32, x9_2 = (nI k) → ∀ x9_3 : Int32, x9_3 = (nI (qB τ i / 10 ^ k)) → ∀ ls : Array Slot, lv_has ls 4 [(0, .ref (ms G o 0)), (1, .int (nI i)), (2, .int x9_2), (3, .int x9_3)] → W p l e ({ frames := 0, cells := 0, slots := 0, locals := 0 } : Room) s m ([.ref (ms G o 0), .int (nI i)] : List Value).toArray below meth c s.heap [] 0 0 (MQ below (oR (some (.int (nI (oDg (qB τ i)))))) ([.ref (ms G o 0), .int (nI i)] : List Value).toArray s 0 0 (fun _ => False)) (F0 m 9 ls []) := by
    intro d9
    induction d9 with
    | zero =>
      intro k hk9 x9_2 e9_2 x9_3 e9_3 ls hl
      subst e9_2
      subst e9_3
      have hk9 : k = oDg (qB τ i) := by omega
      have hle := (o_le0 (n := qB τ i / 10 ^ k) rfl (Nat.lt_of_le_of_lt (Nat.div_le_self _ _) hB31)).trans (oDg_le (k := k) hB31).symm
      refine lv_iload_n hx hb dX5_tunes_9 rfl (lv_at hl 3 rfl) ?_
      refine lv_if_le (tgt := 24) hx hb dX5_tunes_10 (by decide) (fun c10 => ?_) (fun c10 => ?_)
      · refine lv_iload_n hx hb dX5_tunes_24 rfl (lv_at hl 2 rfl) ?_
        exact o_iretR hx hb hr hlocks dX5_tunes_25 (by rw [hk9])
      · exact absurd (hle.mpr (by omega)) c10
    | succ d9 ih9 =>
      intro k hk9 x9_2 e9_2 x9_3 e9_3 ls hl
      subst e9_2
      subst e9_3
      have hj9 : k < oDg (qB τ i) := by omega
      have hle := (o_le0 (n := qB τ i / 10 ^ k) rfl (Nat.lt_of_le_of_lt (Nat.div_le_self _ _) hB31)).trans (oDg_le (k := k) hB31).symm
      refine lv_iload_n hx hb dX5_tunes_9 rfl (lv_at hl 3 rfl) ?_
      refine lv_if_le (tgt := 24) hx hb dX5_tunes_10 (by decide) (fun c10 => ?_) (fun c10 => ?_)
      · exact absurd (hle.mp c10) (by omega)
      · refine lv_iinc (v := nI (k + 1)) (lv' := [(2, .int (nI (k + 1))), (0, .ref (ms G o 0)), (1, .int (nI i)), (3, .int (nI (qB τ i / 10 ^ k)))]) hx hb dX5_tunes_13 hl (k := 2) rfl (nI_1 k) (by decide) rfl (fun ls hl => ?_)
        refine lv_iload_n hx hb dX5_tunes_16 rfl (lv_at hl 3 rfl) ?_
        refine lv_bipush (v := 10) hx hb dX5_tunes_17 (by decide) ?_
        refine lv_idiv hx hb dX5_tunes_19 (by decide) ?_
        refine lv_istore_n (lv' := [(3, .int ((nI (qB τ i / 10 ^ k)) / 10)), (2, .int (nI (k + 1))), (0, .ref (ms G o 0)), (1, .int (nI i))]) hx hb dX5_tunes_20 rfl hl (by decide) rfl (fun ls hl => ?_)
        refine lv_goto (tgt := 9) hx hb dX5_tunes_21 (by decide) ?_
        exact ih9 (k + 1) (by omega) _ (rfl) _ (o_div10 rfl hB31) ls (lv_sub hl [2, 3, 1, 0] rfl)
  exact lp9 (oDg (qB τ i)) 0 (by omega) _ (rfl) _ (by rw [Nat.pow_zero, Nat.div_one]; exact hB.1) ls (lv_sub hl [2, 3, 1, 0] rfl)
set_option maxHeartbeats 4000000 in
set_option maxRecDepth 100000 in
theorem m_X5_tune (l : Launch) (G : oG) (Z : oZ) {o : Nat} (ho : o < 2) (τ : oT) (nS : Nat) (nO : Nat) (nH : Nat) (hz : qOK τ nS nO nH) (i : Nat) (ai : Int32) (ei : ai = nI i) (hi : i < nO) : Met l yX5_tune wsX5_tune ({ frames := 1, cells := 0, slots := 0, locals := 23 } : Room) (va_Pc [.ref (ms G o 0), .int ai] (PW G (mtw G Z o τ))) (oR (some (.int (nI (qTu τ i))))) 0 0 (fun _ => False) := by
  subst ei
  refine o_body (cc := cX5_tune) (by decide +kernel) rfl (Nat.le_of_ble_eq_true rfl) ?_
  intro p e s m below meth c ls hx hb hml hr hlocks hown hts hP hK hN hl
  have hown : s.vm.findClass RX5 = some m.cls := hown
  have hl : lv_has ls 4 [(0, .ref (ms G o 0)), (1, .int (nI i))] := hl
  obtain ⟨hz1, hz2, hz3, hz4, hz5, hz6, hz7, hz8⟩ := id hz
  have hB := hz8 i hi
  have hB31 : qB τ i < 2 ^ 31 := by have := hB.2.1.1; omega
  have hD8 := oDg_8 hB.2.1.1
  have hPl := hB.2.2.2
  refine lv_aload_n hx hb dX5_tune_0 rfl (lv_at hl 0 rfl) ?_
  refine va_get (D := G.1) (ci := 7) (v := .ref (ms G o 11)) (C := RX5) (T := TX5) (N := 21) hx hb hts (fun w9 h9 => List.mem_cons_of_mem _ (List.mem_append_right _ (h9))) hown hK hP (3 + 18 * o + (0)) (mt_S G Z ho τ) rfl 13 (by decide) (hts (.fieldLink RX5 46 "OrganCensusModel$State" "barrel" "[I") (List.mem_of_getElem? (i := 1) rfl)) (fun _ h9 => h9) rfl dX5_tune_1 ?_
  refine lv_iload_n hx hb dX5_tune_4 rfl (lv_at hl 1 rfl) ?_
  refine o_iald (k := i) hx hb hK hP (3 + 18 * o + (11)) 0 (mt_A11 G Z ho τ) rfl rfl (by omega) (by decide) dX5_tune_5 ?_
  refine lv_istore_n (lv' := [(2, .int (τ 11 0 i)), (0, .ref (ms G o 0)), (1, .int (nI i))]) hx hb dX5_tune_6 rfl hl (by decide) rfl (fun ls hl => ?_)
  refine lv_aload_n hx hb dX5_tune_7 rfl (lv_at hl 1 rfl) ?_
  refine lv_iload_n hx hb dX5_tune_8 rfl (lv_at hl 2 rfl) ?_
  refine o_cVi (q0 := 3 + 18 * o + (0)) (ci := 7) [.int (nI i)] [] ⟨hx, hb, hml, hown, hts⟩ (m_X5_tunes l G Z ho τ nS nO nH hz i (nI i) (rfl) (by omega)) (cwV 1 hts gX5_tune_X5_tunes rfl rfl rfl (by decide +kernel) ⟨Nat.le_of_ble_eq_true rfl, Nat.le_of_ble_eq_true rfl⟩) hK hN hP rfl rfl (mt_S G Z ho τ) rfl hl.1 rfl (Nat.le_of_ble_eq_true rfl) dX5_tune_9 ⟨Nat.zero_le _, Nat.zero_le _⟩ ?_
  refine lv_iconst (v := 1) hx hb dX5_tune_12 (by decide) ?_
  refine lv_isub hx hb dX5_tune_13 ?_
  refine lv_istore_n (lv' := [(3, .int ((nI (oDg (qB τ i))) - 1)), (2, .int (τ 11 0 i)), (0, .ref (ms G o 0)), (1, .int (nI i))]) hx hb dX5_tune_14 rfl hl (by decide) rfl (fun ls hl => ?_)
  have lp15 : ∀ (d15 k : Nat), k + d15 = oDg (qB τ i) - 1 - qP τ i → ∀ x15_2 : Int32, x15_2 = (nI (qB τ i / 10 ^ k)) → ∀ x15_3 : Int32, x15_3 = (nI (oDg (qB τ i) - 1 - k)) → ∀ ls : Array Slot, lv_has ls 4 [(0, .ref (ms G o 0)), (1, .int (nI i)), (2, .int x15_2), (3, .int x15_3)] → W p l e ({ frames := 1, cells := 0, slots := 0, locals := 23 } : Room) s m ([.ref (ms G o 0), .int (nI i)] : List Value).toArray below meth c s.heap [] 0 0 (MQ below (oR (some (.int (nI (qTu τ i))))) ([.ref (ms G o 0), .int (nI i)] : List Value).toArray s 0 0 (fun _ => False)) (F0 m 15 ls []) := by
    intro d15
    induction d15 with
    | zero =>
      intro k hk15 x15_2 e15_2 x15_3 e15_3 ls hl
      subst e15_2
      subst e15_3
      have hk15 : k = oDg (qB τ i) - 1 - qP τ i := by omega
      refine lv_iload_n hx hb dX5_tune_15 rfl (lv_at hl 3 rfl) ?_
      refine lv_aload_n hx hb dX5_tune_16 rfl (lv_at hl 0 rfl) ?_
      refine va_get (D := G.1) (ci := 7) (v := .ref (ms G o 12)) (C := RX5) (T := TX5) (N := 21) hx hb hts (fun w9 h9 => List.mem_cons_of_mem _ (List.mem_append_right _ (h9))) hown hK hP (3 + 18 * o + (0)) (mt_S G Z ho τ) rfl 14 (by decide) (hts (.fieldLink RX5 49 "OrganCensusModel$State" "place" "[I") (List.mem_of_getElem? (i := 2) rfl)) (fun _ h9 => h9) rfl dX5_tune_17 ?_
      refine lv_iload_n hx hb dX5_tune_20 rfl (lv_at hl 1 rfl) ?_
      refine o_iald (k := i) hx hb hK hP (3 + 18 * o + (12)) 0 (mt_A12 G Z ho τ) rfl rfl (by omega) (by decide) dX5_tune_21 ?_
      refine lv_icmp_le (tgt := 36) hx hb dX5_tune_22 (by decide) (fun c22 => ?_) (fun c22 => ?_)
      · have n22 := (o_nle (a := oDg (qB τ i) - 1 - k) (b := qP τ i) rfl (hz.2.2.2.2.2.2.2 i (by omega)).2.2.1 (by omega) (by omega)).mp c22
        refine lv_iload_n hx hb dX5_tune_36 rfl (lv_at hl 2 rfl) ?_
        refine lv_bipush (v := 10) hx hb dX5_tune_37 (by decide) ?_
        refine o_irem hx hb dX5_tune_39 (by decide) ?_
        refine lv_iconst (v := 1) hx hb dX5_tune_40 (by decide) ?_
        refine lv_isub hx hb dX5_tune_41 ?_
        exact o_iretR hx hb hr hlocks dX5_tune_42 (by rw [o_rem_n (a := qB τ i / 10 ^ k) (d := 10) rfl (by decide) (Nat.lt_of_le_of_lt (Nat.div_le_self _ _) hB31) (by decide) (by decide), show k = oDg (qB τ i) - 1 - qP τ i by omega]; exact (oTu_lt hB.2.1 hPl).2)
      · have n22 := (mt (o_nle (a := oDg (qB τ i) - 1 - k) (b := qP τ i) rfl (hz.2.2.2.2.2.2.2 i (by omega)).2.2.1 (by omega) (by omega)).mpr) c22; omega
    | succ d15 ih15 =>
      intro k hk15 x15_2 e15_2 x15_3 e15_3 ls hl
      subst e15_2
      subst e15_3
      have hj15 : k < oDg (qB τ i) - 1 - qP τ i := by omega
      refine lv_iload_n hx hb dX5_tune_15 rfl (lv_at hl 3 rfl) ?_
      refine lv_aload_n hx hb dX5_tune_16 rfl (lv_at hl 0 rfl) ?_
      refine va_get (D := G.1) (ci := 7) (v := .ref (ms G o 12)) (C := RX5) (T := TX5) (N := 21) hx hb hts (fun w9 h9 => List.mem_cons_of_mem _ (List.mem_append_right _ (h9))) hown hK hP (3 + 18 * o + (0)) (mt_S G Z ho τ) rfl 14 (by decide) (hts (.fieldLink RX5 49 "OrganCensusModel$State" "place" "[I") (List.mem_of_getElem? (i := 2) rfl)) (fun _ h9 => h9) rfl dX5_tune_17 ?_
      refine lv_iload_n hx hb dX5_tune_20 rfl (lv_at hl 1 rfl) ?_
      refine o_iald (k := i) hx hb hK hP (3 + 18 * o + (12)) 0 (mt_A12 G Z ho τ) rfl rfl (by omega) (by decide) dX5_tune_21 ?_
      refine lv_icmp_le (tgt := 36) hx hb dX5_tune_22 (by decide) (fun c22 => ?_) (fun c22 => ?_)
      · have n22 := (o_nle (a := oDg (qB τ i) - 1 - k) (b := qP τ i) rfl (hz.2.2.2.2.2.2.2 i (by omega)).2.2.1 (by omega) (by omega)).mp c22; omega
      · have n22 := (mt (o_nle (a := oDg (qB τ i) - 1 - k) (b := qP τ i) rfl (hz.2.2.2.2.2.2.2 i (by omega)).2.2.1 (by omega) (by omega)).mpr) c22
        refine lv_iload_n hx hb dX5_tune_25 rfl (lv_at hl 2 rfl) ?_
        refine lv_bipush (v := 10) hx hb dX5_tune_26 (by decide) ?_
        refine lv_idiv hx hb dX5_tune_28 (by decide) ?_
        refine lv_istore_n (lv' := [(2, .int ((nI (qB τ i / 10 ^ k)) / 10)), (0, .ref (ms G o 0)), (1, .int (nI i)), (3, .int (nI (oDg (qB τ i) - 1 - k)))]) hx hb dX5_tune_29 rfl hl (by decide) rfl (fun ls hl => ?_)
        refine lv_iinc (v := nI (oDg (qB τ i) - 1 - (k + 1))) (lv' := [(3, .int (nI (oDg (qB τ i) - 1 - (k + 1)))), (2, .int ((nI (qB τ i / 10 ^ k)) / 10)), (0, .ref (ms G o 0)), (1, .int (nI i))]) hx hb dX5_tune_30 hl (k := 3) rfl (by rw [show oDg (qB τ i) - 1 - k = oDg (qB τ i) - 1 - (k + 1) + 1 by omega]; exact pk_m1 _) (by decide) rfl (fun ls hl => ?_)
        refine lv_goto (tgt := 15) hx hb dX5_tune_33 (by decide) ?_
        exact ih15 (k + 1) (by omega) _ (o_div10 rfl hB31) _ (rfl) ls (lv_sub hl [2, 3, 1, 0] rfl)
  exact lp15 (oDg (qB τ i) - 1 - qP τ i) 0 (by omega) _ (by rw [Nat.pow_zero, Nat.div_one]; exact hB.1) _ (by rw [Nat.sub_zero]; exact o_sub_n rfl (by decide) (by omega)) ls (lv_sub hl [2, 3, 1, 0] rfl)
set_option maxHeartbeats 4000000 in
set_option maxRecDepth 100000 in
theorem m_X5_sound (l : Launch) (G : oG) (Z : oZ) {o : Nat} (ho : o < 2) (τ : oT) (nS : Nat) (nO : Nat) (nH : Nat) (hz : qOK τ nS nO nH) (i : Nat) (ai : Int32) (ei : ai = nI i) (hi : i < nO) (x : Int32) (y : Int32) : Met l yX5_sound wsX5_sound ({ frames := 1, cells := 0, slots := 0, locals := 21 } : Room) (va_Pc [.ref (ms G o 0), .int ai, .int x, .int y] (PW G (mtw G Z o τ))) (oR (some (.int (qSnd τ i x y)))) 0 0 (fun _ => False) := by
  subst ei
  refine o_body (cc := cX5_sound) (by decide +kernel) rfl (Nat.le_of_ble_eq_true rfl) ?_
  intro p e s m below meth c ls hx hb hml hr hlocks hown hts hP hK hN hl
  have hown : s.vm.findClass RX5 = some m.cls := hown
  have hl : lv_has ls 4 [(0, .ref (ms G o 0)), (1, .int (nI i)), (2, .int x), (3, .int y)] := hl
  obtain ⟨hz1, hz2, hz3, hz4, hz5, hz6, hz7, hz8⟩ := id hz
  refine lv_aload_n hx hb dX5_sound_0 rfl (lv_at hl 0 rfl) ?_
  refine va_get (D := G.1) (ci := 7) (v := .ref (ms G o 6)) (C := RX5) (T := TX5) (N := 21) hx hb hts (fun w9 h9 => List.mem_cons_of_mem _ (List.mem_append_right _ (h9))) hown hK hP (3 + 18 * o + (0)) (mt_S G Z ho τ) rfl 8 (by decide) (hts (.fieldLink RX5 31 "OrganCensusModel$State" "at" "[I") (List.mem_of_getElem? (i := 1) rfl)) (fun _ h9 => h9) rfl dX5_sound_1 ?_
  refine lv_iload_n hx hb dX5_sound_4 rfl (lv_at hl 1 rfl) ?_
  refine o_iald (k := i) hx hb hK hP (3 + 18 * o + (6)) 0 (mt_A6 G Z ho τ) rfl rfl (by omega) (by decide) dX5_sound_5 ?_
  refine lv_iload_n hx hb dX5_sound_6 rfl (lv_at hl 2 rfl) ?_
  refine lv_icmp_ne (tgt := 44) hx hb dX5_sound_7 (by decide) (fun c7 => ?_) (fun c7 => ?_)
  · refine lv_iconst (v := 0) hx hb dX5_sound_44 (by decide) ?_
    exact o_iretR hx hb hr hlocks dX5_sound_45 (by simp [qSnd, c7])
  · refine lv_aload_n hx hb dX5_sound_10 rfl (lv_at hl 0 rfl) ?_
    refine va_get (D := G.1) (ci := 7) (v := .ref (ms G o 8)) (C := RX5) (T := TX5) (N := 21) hx hb hts (fun w9 h9 => List.mem_cons_of_mem _ (List.mem_append_right _ (h9))) hown hK hP (3 + 18 * o + (0)) (mt_S G Z ho τ) rfl 10 (by decide) (hts (.fieldLink RX5 37 "OrganCensusModel$State" "left" "[I") (List.mem_of_getElem? (i := 2) rfl)) (fun _ h9 => h9) rfl dX5_sound_11 ?_
    refine lv_iload_n hx hb dX5_sound_14 rfl (lv_at hl 1 rfl) ?_
    refine o_iald (k := i) hx hb hK hP (3 + 18 * o + (8)) 0 (mt_A8 G Z ho τ) rfl rfl (by omega) (by decide) dX5_sound_15 ?_
    refine lv_if_ne (tgt := 44) hx hb dX5_sound_16 (by decide) (fun c16 => ?_) (fun c16 => ?_)
    · refine lv_iconst (v := 0) hx hb dX5_sound_44 (by decide) ?_
      exact o_iretR hx hb hr hlocks dX5_sound_45 (by simp [qSnd, c7, c16])
    · refine lv_iconst (v := 0) hx hb dX5_sound_19 (by decide) ?_
      refine lv_aload_n hx hb dX5_sound_20 rfl (lv_at hl 0 rfl) ?_
      refine va_get (D := G.1) (ci := 7) (v := .ref (ms G o 9)) (C := RX5) (T := TX5) (N := 21) hx hb hts (fun w9 h9 => List.mem_cons_of_mem _ (List.mem_append_right _ (h9))) hown hK hP (3 + 18 * o + (0)) (mt_S G Z ho τ) rfl 11 (by decide) (hts (.fieldLink RX5 40 "OrganCensusModel$State" "loud" "[I") (List.mem_of_getElem? (i := 3) rfl)) (fun _ h9 => h9) rfl dX5_sound_21 ?_
      refine lv_iload_n hx hb dX5_sound_24 rfl (lv_at hl 1 rfl) ?_
      refine o_iald (k := i) hx hb hK hP (3 + 18 * o + (9)) 0 (mt_A9 G Z ho τ) rfl rfl (by omega) (by decide) dX5_sound_25 ?_
      refine lv_aload_n hx hb dX5_sound_26 rfl (lv_at hl 0 rfl) ?_
      refine va_get (D := G.1) (ci := 7) (v := .ref (ms G o 7)) (C := RX5) (T := TX5) (N := 21) hx hb hts (fun w9 h9 => List.mem_cons_of_mem _ (List.mem_append_right _ (h9))) hown hK hP (3 + 18 * o + (0)) (mt_S G Z ho τ) rfl 9 (by decide) (hts (.fieldLink RX5 34 "OrganCensusModel$State" "pitch" "[I") (List.mem_of_getElem? (i := 4) rfl)) (fun _ h9 => h9) rfl dX5_sound_27 ?_
      refine lv_iload_n hx hb dX5_sound_30 rfl (lv_at hl 1 rfl) ?_
      refine o_iald (k := i) hx hb hK hP (3 + 18 * o + (7)) 0 (mt_A7 G Z ho τ) rfl rfl (by omega) (by decide) dX5_sound_31 ?_
      refine lv_iload_n hx hb dX5_sound_32 rfl (lv_at hl 3 rfl) ?_
      refine lv_isub hx hb dX5_sound_33 ?_
      refine va_mabs (rest := [.int (τ 9 0 i), .int 0]) hx hb (hml.trans hl.1.symm) hown (hts (.methodLink RX5 92 Lib.Math.abs.name) (List.mem_of_getElem? (i := 5) rfl)) (hts (.static Lib.Math.abs.name) (List.mem_of_getElem? (i := 6) rfl)) (hts (.initialized "java/lang/Math") (List.mem_of_getElem? (i := 7) rfl)) (hts (.code Lib.Math.abs.name Lib.Math.abs.code 1 (some .int)) (List.mem_of_getElem? (i := 8) rfl)) (Nat.le_of_ble_eq_true rfl) (Nat.le_of_ble_eq_true rfl) (Nat.zero_le _) (Nat.zero_le _) dX5_sound_34 ?_
      change W _ _ _ _ _ _ _ _ _ _ _ _ _ _ _ (F0 m 37 ls (.int (o_abs ((τ 7 0 i) - y)) :: _))
      refine lv_isub hx hb dX5_sound_37 ?_
      refine va_mmax (rest := []) hx hb (hml.trans hl.1.symm) hown (hts (.methodLink RX5 97 Lib.Math.max.name) (List.mem_of_getElem? (i := 9) rfl)) (hts (.static Lib.Math.max.name) (List.mem_of_getElem? (i := 10) rfl)) (hts (.initialized "java/lang/Math") (List.mem_of_getElem? (i := 7) rfl)) (hts (.code Lib.Math.max.name Lib.Math.max.code 2 (some .int)) (List.mem_of_getElem? (i := 11) rfl)) (Nat.le_of_ble_eq_true rfl) (Nat.le_of_ble_eq_true rfl) (Nat.zero_le _) (Nat.zero_le _) dX5_sound_38 ?_
      change W _ _ _ _ _ _ _ _ _ _ _ _ _ _ _ (F0 m 41 ls (.int (o_max 0 ((τ 9 0 i) - (o_abs ((τ 7 0 i) - y)))) :: _))
      refine lv_goto (tgt := 45) hx hb dX5_sound_41 (by decide) ?_
      exact o_iretR hx hb hr hlocks dX5_sound_45 (by simp [qSnd, c7, c16])
set_option maxHeartbeats 4000000 in
set_option maxRecDepth 100000 in
theorem m_X5_loudest (l : Launch) (G : oG) (Z : oZ) {o : Nat} (ho : o < 2) (τ : oT) (nS : Nat) (nO : Nat) (nH : Nat) (hz : qOK τ nS nO nH) (x : Int32) (y : Int32) : Met l yX5_loudest wsX5_loudest ({ frames := 2, cells := 0, slots := 0, locals := 44 } : Room) (va_Pc [.ref (ms G o 0), .int x, .int y] (PW G (mtw G Z o τ))) (oR (some (.int (qLd τ x y nO)))) 0 0 (fun _ => False) := by
  refine o_body (cc := cX5_loudest) (by decide +kernel) rfl (Nat.le_of_ble_eq_true rfl) ?_
  intro p e s m below meth c ls hx hb hml hr hlocks hown hts hP hK hN hl
  have hown : s.vm.findClass RX5 = some m.cls := hown
  have hl : lv_has ls 5 [(0, .ref (ms G o 0)), (1, .int x), (2, .int y)] := hl
  obtain ⟨hz1, hz2, hz3, hz4, hz5, hz6, hz7, hz8⟩ := id hz
  refine lv_iconst (v := 0) hx hb dX5_loudest_0 (by decide) ?_
  refine lv_istore_n (lv' := [(3, .int 0), (0, .ref (ms G o 0)), (1, .int x), (2, .int y)]) hx hb dX5_loudest_1 rfl hl (by decide) rfl (fun ls hl => ?_)
  refine lv_iconst (v := 0) hx hb dX5_loudest_2 (by decide) ?_
  refine lv_istore (lv' := [(4, .int 0), (3, .int 0), (0, .ref (ms G o 0)), (1, .int x), (2, .int y)]) hx hb dX5_loudest_3 hl (by decide) rfl (fun ls hl => ?_)
  have lp5 : ∀ (d5 k : Nat), k + d5 = nO → ∀ x5_3 : Int32, x5_3 = (qLd τ x y k) → ∀ x5_4 : Int32, x5_4 = (nI k) → ∀ ls : Array Slot, lv_has ls 5 [(0, .ref (ms G o 0)), (1, .int x), (2, .int y), (3, .int x5_3), (4, .int x5_4)] → W p l e ({ frames := 2, cells := 0, slots := 0, locals := 44 } : Room) s m ([.ref (ms G o 0), .int x, .int y] : List Value).toArray below meth c s.heap [] 0 0 (MQ below (oR (some (.int (qLd τ x y nO)))) ([.ref (ms G o 0), .int x, .int y] : List Value).toArray s 0 0 (fun _ => False)) (F0 m 5 ls []) := by
    intro d5
    induction d5 with
    | zero =>
      intro k hk5 x5_3 e5_3 x5_4 e5_4 ls hl
      subst e5_3
      subst e5_4
      have hk5 : k = nO := by omega
      refine lv_iload hx hb dX5_loudest_5 (lv_at hl 4 rfl) ?_
      refine lv_aload_n hx hb dX5_loudest_7 rfl (lv_at hl 0 rfl) ?_
      refine va_get (D := G.1) (ci := 7) (v := .int (τ 40 0 2)) (C := RX5) (T := TX5) (N := 21) hx hb hts (fun w9 h9 => List.mem_cons_of_mem _ (List.mem_append_right _ (h9))) hown hK hP (3 + 18 * o + (0)) (mt_S G Z ho τ) rfl 7 (by decide) (hts (.fieldLink RX5 81 "OrganCensusModel$State" "organs" "I") (List.mem_of_getElem? (i := 1) rfl)) (fun _ h9 => h9) rfl dX5_loudest_8 ?_
      refine lv_icmp_ge (tgt := 33) hx hb dX5_loudest_11 (by decide) (fun c11 => ?_) (fun c11 => ?_)
      · have n11 := (o_nle (a := nO) (b := k) hz.2.2.1 rfl (by omega) (by omega)).mp c11
        refine lv_iload_n hx hb dX5_loudest_33 rfl (lv_at hl 3 rfl) ?_
        exact o_iretR hx hb hr hlocks dX5_loudest_34 (by rw [hk5])
      · have n11 := (mt (o_nle (a := nO) (b := k) hz.2.2.1 rfl (by omega) (by omega)).mpr) c11; omega
    | succ d5 ih5 =>
      intro k hk5 x5_3 e5_3 x5_4 e5_4 ls hl
      subst e5_3
      subst e5_4
      have hj5 : k < nO := by omega
      refine lv_iload hx hb dX5_loudest_5 (lv_at hl 4 rfl) ?_
      refine lv_aload_n hx hb dX5_loudest_7 rfl (lv_at hl 0 rfl) ?_
      refine va_get (D := G.1) (ci := 7) (v := .int (τ 40 0 2)) (C := RX5) (T := TX5) (N := 21) hx hb hts (fun w9 h9 => List.mem_cons_of_mem _ (List.mem_append_right _ (h9))) hown hK hP (3 + 18 * o + (0)) (mt_S G Z ho τ) rfl 7 (by decide) (hts (.fieldLink RX5 81 "OrganCensusModel$State" "organs" "I") (List.mem_of_getElem? (i := 1) rfl)) (fun _ h9 => h9) rfl dX5_loudest_8 ?_
      refine lv_icmp_ge (tgt := 33) hx hb dX5_loudest_11 (by decide) (fun c11 => ?_) (fun c11 => ?_)
      · have n11 := (o_nle (a := nO) (b := k) hz.2.2.1 rfl (by omega) (by omega)).mp c11; omega
      · have n11 := (mt (o_nle (a := nO) (b := k) hz.2.2.1 rfl (by omega) (by omega)).mpr) c11
        refine lv_iload_n hx hb dX5_loudest_14 rfl (lv_at hl 3 rfl) ?_
        refine lv_aload_n hx hb dX5_loudest_15 rfl (lv_at hl 0 rfl) ?_
        refine lv_iload hx hb dX5_loudest_16 (lv_at hl 4 rfl) ?_
        refine lv_iload_n hx hb dX5_loudest_18 rfl (lv_at hl 1 rfl) ?_
        refine lv_iload_n hx hb dX5_loudest_19 rfl (lv_at hl 2 rfl) ?_
        refine o_cVi (q0 := 3 + 18 * o + (0)) (ci := 7) [.int (nI k), .int x, .int y] [.int (qLd τ x y k)] ⟨hx, hb, hml, hown, hts⟩ (m_X5_sound l G Z ho τ nS nO nH hz k (nI k) (rfl) (by omega) x y) (cwV 3 hts gX5_loudest_X5_sound rfl rfl rfl (by decide +kernel) ⟨Nat.le_of_ble_eq_true rfl, Nat.le_of_ble_eq_true rfl⟩) hK hN hP rfl rfl (mt_S G Z ho τ) rfl hl.1 rfl (Nat.le_of_ble_eq_true rfl) dX5_loudest_20 ⟨Nat.zero_le _, Nat.zero_le _⟩ ?_
        refine va_mmax (rest := []) hx hb (hml.trans hl.1.symm) hown (hts (.methodLink RX5 97 Lib.Math.max.name) (List.mem_of_getElem? (i := 2) rfl)) (hts (.static Lib.Math.max.name) (List.mem_of_getElem? (i := 3) rfl)) (hts (.initialized "java/lang/Math") (List.mem_of_getElem? (i := 4) rfl)) (hts (.code Lib.Math.max.name Lib.Math.max.code 2 (some .int)) (List.mem_of_getElem? (i := 5) rfl)) (Nat.le_of_ble_eq_true rfl) (Nat.le_of_ble_eq_true rfl) (Nat.zero_le _) (Nat.zero_le _) dX5_loudest_23 ?_
        change W _ _ _ _ _ _ _ _ _ _ _ _ _ _ _ (F0 m 26 ls (.int (o_max (qLd τ x y k) (qSnd τ k x y)) :: _))
        refine lv_istore_n (lv' := [(3, .int (o_max (qLd τ x y k) (qSnd τ k x y))), (0, .ref (ms G o 0)), (1, .int x), (2, .int y), (4, .int (nI k))]) hx hb dX5_loudest_26 rfl hl (by decide) rfl (fun ls hl => ?_)
        refine lv_iinc (v := nI (k + 1)) (lv' := [(4, .int (nI (k + 1))), (3, .int (o_max (qLd τ x y k) (qSnd τ k x y))), (0, .ref (ms G o 0)), (1, .int x), (2, .int y)]) hx hb dX5_loudest_27 hl (k := 4) rfl (nI_1 k) (by decide) rfl (fun ls hl => ?_)
        refine lv_goto (tgt := 5) hx hb dX5_loudest_30 (by decide) ?_
        exact ih5 (k + 1) (by omega) _ (rfl) _ (rfl) ls (lv_sub hl [2, 3, 4, 1, 0] rfl)
  exact lp5 (nO) 0 (by omega) _ (rfl) _ (rfl) ls (lv_sub hl [2, 3, 4, 1, 0] rfl)
set_option maxHeartbeats 4000000 in
set_option maxRecDepth 100000 in
theorem m_X5_heard (l : Launch) (G : oG) (Z : oZ) {o : Nat} (ho : o < 2) (τ : oT) (nS : Nat) (nO : Nat) (nH : Nat) (hz : qOK τ nS nO nH) (x : Int32) (y : Int32) : Met l yX5_heard wsX5_heard ({ frames := 3, cells := 0, slots := 0, locals := 68 } : Room) (va_Pc [.ref (ms G o 0), .int x, .int y] (PW G (mtw G Z o τ))) (oR (some (.int (qHeard τ nO x y)))) 0 0 (fun _ => False) := by
  refine o_body (cc := cX5_heard) (by decide +kernel) rfl (Nat.le_of_ble_eq_true rfl) ?_
  intro p e s m below meth c ls hx hb hml hr hlocks hown hts hP hK hN hl
  have hown : s.vm.findClass RX5 = some m.cls := hown
  have hl : lv_has ls 8 [(0, .ref (ms G o 0)), (1, .int x), (2, .int y)] := hl
  obtain ⟨hz1, hz2, hz3, hz4, hz5, hz6, hz7, hz8⟩ := id hz
  have hlt : ∀ {a b : Int32}, a ≤ b → ¬ b < a := fun h => Int32.not_lt.mpr h
  refine lv_aload_n hx hb dX5_heard_0 rfl (lv_at hl 0 rfl) ?_
  refine lv_iload_n hx hb dX5_heard_1 rfl (lv_at hl 1 rfl) ?_
  refine lv_iload_n hx hb dX5_heard_2 rfl (lv_at hl 2 rfl) ?_
  refine o_cVi (q0 := 3 + 18 * o + (0)) (ci := 7) [.int x, .int y] [] ⟨hx, hb, hml, hown, hts⟩ (m_X5_loudest l G Z ho τ nS nO nH hz x y) (cwV 2 hts gX5_heard_X5_loudest rfl rfl rfl (by decide +kernel) ⟨Nat.le_of_ble_eq_true rfl, Nat.le_of_ble_eq_true rfl⟩) hK hN hP rfl rfl (mt_S G Z ho τ) rfl hl.1 rfl (Nat.le_of_ble_eq_true rfl) dX5_heard_3 ⟨Nat.zero_le _, Nat.zero_le _⟩ ?_
  refine lv_istore_n (lv' := [(3, .int (qLd τ x y nO)), (0, .ref (ms G o 0)), (1, .int x), (2, .int y)]) hx hb dX5_heard_6 rfl hl (by decide) rfl (fun ls hl => ?_)
  refine lv_iconst (v := (-1)) hx hb dX5_heard_7 (by decide) ?_
  refine lv_istore (lv' := [(4, .int ((-1))), (3, .int (qLd τ x y nO)), (0, .ref (ms G o 0)), (1, .int x), (2, .int y)]) hx hb dX5_heard_8 hl (by decide) rfl (fun ls hl => ?_)
  refine lv_iconst (v := 0) hx hb dX5_heard_10 (by decide) ?_
  refine lv_istore (lv' := [(5, .int 0), (4, .int ((-1))), (3, .int (qLd τ x y nO)), (0, .ref (ms G o 0)), (1, .int x), (2, .int y)]) hx hb dX5_heard_11 hl (by decide) rfl (fun ls hl => ?_)
  refine lv_iconst (v := 0) hx hb dX5_heard_13 (by decide) ?_
  refine lv_istore (lv' := [(6, .int 0), (5, .int 0), (4, .int ((-1))), (3, .int (qLd τ x y nO)), (0, .ref (ms G o 0)), (1, .int x), (2, .int y)]) hx hb dX5_heard_14 hl (by decide) rfl (fun ls hl => ?_)
  have lp16 : ∀ (d16 k : Nat), k + d16 = nO → ∀ x16_4 : Int32, x16_4 = ((qHd τ x y (qLd τ x y nO) k).1) → ∀ x16_5 : Int32, x16_5 = ((qHd τ x y (qLd τ x y nO) k).2) → ∀ x16_6 : Int32, x16_6 = (nI k) → ∀ ls : Array Slot, lv_has ls 8 [(0, .ref (ms G o 0)), (1, .int x), (2, .int y), (3, .int (qLd τ x y nO)), (4, .int x16_4), (5, .int x16_5), (6, .int x16_6)] → W p l e ({ frames := 3, cells := 0, slots := 0, locals := 68 } : Room) s m ([.ref (ms G o 0), .int x, .int y] : List Value).toArray below meth c s.heap [] 0 0 (MQ below (oR (some (.int (qHeard τ nO x y)))) ([.ref (ms G o 0), .int x, .int y] : List Value).toArray s 0 0 (fun _ => False)) (F0 m 16 ls []) := by
    intro d16
    induction d16 with
    | zero =>
      intro k hk16 x16_4 e16_4 x16_5 e16_5 x16_6 e16_6 ls hl
      subst e16_4
      subst e16_5
      subst e16_6
      have hk16 : k = nO := by omega
      refine lv_iload hx hb dX5_heard_16 (lv_at hl 6 rfl) ?_
      refine lv_aload_n hx hb dX5_heard_18 rfl (lv_at hl 0 rfl) ?_
      refine va_get (D := G.1) (ci := 7) (v := .int (τ 40 0 2)) (C := RX5) (T := TX5) (N := 21) hx hb hts (fun w9 h9 => List.mem_cons_of_mem _ (List.mem_append_right _ (h9))) hown hK hP (3 + 18 * o + (0)) (mt_S G Z ho τ) rfl 7 (by decide) (hts (.fieldLink RX5 81 "OrganCensusModel$State" "organs" "I") (List.mem_of_getElem? (i := 1) rfl)) (fun _ h9 => h9) rfl dX5_heard_19 ?_
      refine lv_icmp_ge (tgt := 70) hx hb dX5_heard_22 (by decide) (fun c22 => ?_) (fun c22 => ?_)
      · have n22 := (o_nle (a := nO) (b := k) hz.2.2.1 rfl (by omega) (by omega)).mp c22
        refine lv_iload hx hb dX5_heard_70 (lv_at hl 5 rfl) ?_
        refine lv_iconst (v := 1) hx hb dX5_heard_72 (by decide) ?_
        refine lv_icmp_le (tgt := 81) hx hb dX5_heard_73 (by decide) (fun c73 => ?_) (fun c73 => ?_)
        · refine lv_iload hx hb dX5_heard_81 (lv_at hl 4 rfl) ?_
          exact o_iretR hx hb hr hlocks dX5_heard_83 (by subst hk16; simp [qHeard, c22, c73])
        · refine lv_bipush (v := (-2)) hx hb dX5_heard_76 (by decide) ?_
          refine lv_goto (tgt := 83) hx hb dX5_heard_78 (by decide) ?_
          exact o_iretR hx hb hr hlocks dX5_heard_83 (by subst hk16; simp [qHeard, c22, c73])
      · have n22 := (mt (o_nle (a := nO) (b := k) hz.2.2.1 rfl (by omega) (by omega)).mpr) c22; omega
    | succ d16 ih16 =>
      intro k hk16 x16_4 e16_4 x16_5 e16_5 x16_6 e16_6 ls hl
      subst e16_4
      subst e16_5
      subst e16_6
      have hj16 : k < nO := by omega
      refine lv_iload hx hb dX5_heard_16 (lv_at hl 6 rfl) ?_
      refine lv_aload_n hx hb dX5_heard_18 rfl (lv_at hl 0 rfl) ?_
      refine va_get (D := G.1) (ci := 7) (v := .int (τ 40 0 2)) (C := RX5) (T := TX5) (N := 21) hx hb hts (fun w9 h9 => List.mem_cons_of_mem _ (List.mem_append_right _ (h9))) hown hK hP (3 + 18 * o + (0)) (mt_S G Z ho τ) rfl 7 (by decide) (hts (.fieldLink RX5 81 "OrganCensusModel$State" "organs" "I") (List.mem_of_getElem? (i := 1) rfl)) (fun _ h9 => h9) rfl dX5_heard_19 ?_
      refine lv_icmp_ge (tgt := 70) hx hb dX5_heard_22 (by decide) (fun c22 => ?_) (fun c22 => ?_)
      · have n22 := (o_nle (a := nO) (b := k) hz.2.2.1 rfl (by omega) (by omega)).mp c22; omega
      · have n22 := (mt (o_nle (a := nO) (b := k) hz.2.2.1 rfl (by omega) (by omega)).mpr) c22
        refine lv_aload_n hx hb dX5_heard_25 rfl (lv_at hl 0 rfl) ?_
        refine lv_iload hx hb dX5_heard_26 (lv_at hl 6 rfl) ?_
        refine lv_iload_n hx hb dX5_heard_28 rfl (lv_at hl 1 rfl) ?_
        refine lv_iload_n hx hb dX5_heard_29 rfl (lv_at hl 2 rfl) ?_
        refine o_cVi (q0 := 3 + 18 * o + (0)) (ci := 7) [.int (nI k), .int x, .int y] [] ⟨hx, hb, hml, hown, hts⟩ (m_X5_sound l G Z ho τ nS nO nH hz k (nI k) (rfl) (by omega) x y) (cwV 3 hts gX5_heard_X5_sound rfl rfl rfl (by decide +kernel) ⟨Nat.le_of_ble_eq_true rfl, Nat.le_of_ble_eq_true rfl⟩) hK hN hP rfl rfl (mt_S G Z ho τ) rfl hl.1 rfl (Nat.le_of_ble_eq_true rfl) dX5_heard_30 ⟨Nat.zero_le _, Nat.zero_le _⟩ ?_
        refine lv_istore (lv' := [(7, .int (qSnd τ k x y)), (0, .ref (ms G o 0)), (1, .int x), (2, .int y), (3, .int (qLd τ x y nO)), (4, .int ((qHd τ x y (qLd τ x y nO) k).1)), (5, .int ((qHd τ x y (qLd τ x y nO) k).2)), (6, .int (nI k))]) hx hb dX5_heard_33 hl (by decide) rfl (fun ls hl => ?_)
        refine lv_iload hx hb dX5_heard_35 (lv_at hl 0 rfl) ?_
        refine lv_if_eq (tgt := 64) hx hb dX5_heard_37 (by decide) (fun c37 => ?_) (fun c37 => ?_)
        · refine lv_iinc (v := nI (k + 1)) (lv' := [(6, .int (nI (k + 1))), (7, .int (qSnd τ k x y)), (0, .ref (ms G o 0)), (1, .int x), (2, .int y), (3, .int (qLd τ x y nO)), (4, .int ((qHd τ x y (qLd τ x y nO) k).1)), (5, .int ((qHd τ x y (qLd τ x y nO) k).2))]) hx hb dX5_heard_64 hl (k := 7) rfl (nI_1 k) (by decide) rfl (fun ls hl => ?_)
          refine lv_goto (tgt := 16) hx hb dX5_heard_67 (by decide) ?_
          exact ih16 (k + 1) (by omega) _ (by first | (simp only [qHd]; rw [if_neg (not_or.mpr ⟨c37, c45⟩)]; done) | (simp only [qHd]; rw [if_neg (not_or.mpr ⟨c37, c45⟩)]; simp [c57]; done) | (simp [qHd, c22, c37]; done)) _ (by first | (simp only [qHd]; rw [if_neg (not_or.mpr ⟨c37, c45⟩)]; done) | (simp only [qHd]; rw [if_neg (not_or.mpr ⟨c37, c45⟩)]; simp [c57]; done) | (simp [qHd, c22, c37]; done)) _ (rfl) ls (lv_sub hl [2, 3, 4, 5, 6, 7, 0] rfl)
        · refine lv_iload hx hb dX5_heard_40 (lv_at hl 0 rfl) ?_
          refine lv_iload_n hx hb dX5_heard_42 rfl (lv_at hl 4 rfl) ?_
          refine lv_iconst (v := 1) hx hb dX5_heard_43 (by decide) ?_
          refine lv_isub hx hb dX5_heard_44 ?_
          refine lv_icmp_ge (tgt := 51) hx hb dX5_heard_45 (by decide) (fun c45 => ?_) (fun c45 => ?_)
          · have c45 := hlt c45
            refine lv_iinc (v := ((qHd τ x y (qLd τ x y nO) k).2) + 1) (lv' := [(5, .int (((qHd τ x y (qLd τ x y nO) k).2) + 1)), (7, .int (qSnd τ k x y)), (0, .ref (ms G o 0)), (1, .int x), (2, .int y), (3, .int (qLd τ x y nO)), (4, .int ((qHd τ x y (qLd τ x y nO) k).1)), (6, .int (nI k))]) hx hb dX5_heard_51 hl (k := 6) rfl rfl (by decide) rfl (fun ls hl => ?_)
            refine lv_iload hx hb dX5_heard_54 (lv_at hl 1 rfl) ?_
            refine lv_iload_n hx hb dX5_heard_56 rfl (lv_at hl 5 rfl) ?_
            refine lv_icmp_ne (tgt := 64) hx hb dX5_heard_57 (by decide) (fun c57 => ?_) (fun c57 => ?_)
            · refine lv_iinc (v := nI (k + 1)) (lv' := [(6, .int (nI (k + 1))), (5, .int (((qHd τ x y (qLd τ x y nO) k).2) + 1)), (7, .int (qSnd τ k x y)), (0, .ref (ms G o 0)), (1, .int x), (2, .int y), (3, .int (qLd τ x y nO)), (4, .int ((qHd τ x y (qLd τ x y nO) k).1))]) hx hb dX5_heard_64 hl (k := 7) rfl (nI_1 k) (by decide) rfl (fun ls hl => ?_)
              refine lv_goto (tgt := 16) hx hb dX5_heard_67 (by decide) ?_
              exact ih16 (k + 1) (by omega) _ (by first | (simp only [qHd]; rw [if_neg (not_or.mpr ⟨c37, c45⟩)]; done) | (simp only [qHd]; rw [if_neg (not_or.mpr ⟨c37, c45⟩)]; simp [c57]; done) | (simp [qHd, c22, c37, c45, c57]; done)) _ (by first | (simp only [qHd]; rw [if_neg (not_or.mpr ⟨c37, c45⟩)]; done) | (simp only [qHd]; rw [if_neg (not_or.mpr ⟨c37, c45⟩)]; simp [c57]; done) | (simp [qHd, c22, c37, c45, c57]; done)) _ (rfl) ls (lv_sub hl [3, 4, 5, 6, 7, 1, 0] rfl)
            · refine lv_iload hx hb dX5_heard_60 (lv_at hl 7 rfl) ?_
              refine lv_istore (lv' := [(4, .int (nI k)), (5, .int (((qHd τ x y (qLd τ x y nO) k).2) + 1)), (7, .int (qSnd τ k x y)), (0, .ref (ms G o 0)), (1, .int x), (2, .int y), (3, .int (qLd τ x y nO)), (6, .int (nI k))]) hx hb dX5_heard_62 hl (by decide) rfl (fun ls hl => ?_)
              refine lv_iinc (v := nI (k + 1)) (lv' := [(6, .int (nI (k + 1))), (4, .int (nI k)), (5, .int (((qHd τ x y (qLd τ x y nO) k).2) + 1)), (7, .int (qSnd τ k x y)), (0, .ref (ms G o 0)), (1, .int x), (2, .int y), (3, .int (qLd τ x y nO))]) hx hb dX5_heard_64 hl (k := 7) rfl (nI_1 k) (by decide) rfl (fun ls hl => ?_)
              refine lv_goto (tgt := 16) hx hb dX5_heard_67 (by decide) ?_
              exact ih16 (k + 1) (by omega) _ (by first | (simp only [qHd]; rw [if_neg (not_or.mpr ⟨c37, c45⟩)]; done) | (simp only [qHd]; rw [if_neg (not_or.mpr ⟨c37, c45⟩)]; simp [c57]; done) | (simp [qHd, c22, c37, c45, c57]; done)) _ (by first | (simp only [qHd]; rw [if_neg (not_or.mpr ⟨c37, c45⟩)]; done) | (simp only [qHd]; rw [if_neg (not_or.mpr ⟨c37, c45⟩)]; simp [c57]; done) | (simp [qHd, c22, c37, c45, c57]; done)) _ (rfl) ls (lv_sub hl [4, 5, 6, 7, 1, 2, 0] rfl)
          · have c45 := Int32.not_le.mp c45
            refine lv_goto (tgt := 64) hx hb dX5_heard_48 (by decide) ?_
            refine lv_iinc (v := nI (k + 1)) (lv' := [(6, .int (nI (k + 1))), (7, .int (qSnd τ k x y)), (0, .ref (ms G o 0)), (1, .int x), (2, .int y), (3, .int (qLd τ x y nO)), (4, .int ((qHd τ x y (qLd τ x y nO) k).1)), (5, .int ((qHd τ x y (qLd τ x y nO) k).2))]) hx hb dX5_heard_64 hl (k := 7) rfl (nI_1 k) (by decide) rfl (fun ls hl => ?_)
            refine lv_goto (tgt := 16) hx hb dX5_heard_67 (by decide) ?_
            exact ih16 (k + 1) (by omega) _ (by first | (simp only [qHd]; rw [if_neg (not_or.mpr ⟨c37, c45⟩)]; done) | (simp only [qHd]; rw [if_neg (not_or.mpr ⟨c37, c45⟩)]; simp [c57]; done) | (simp [qHd, c22, c37, c45]; done)) _ (by first | (simp only [qHd]; rw [if_neg (not_or.mpr ⟨c37, c45⟩)]; done) | (simp only [qHd]; rw [if_neg (not_or.mpr ⟨c37, c45⟩)]; simp [c57]; done) | (simp [qHd, c22, c37, c45]; done)) _ (rfl) ls (lv_sub hl [2, 3, 4, 5, 6, 7, 0] rfl)
  exact lp16 (nO) 0 (by omega) _ (rfl) _ (rfl) _ (rfl) ls (lv_sub hl [4, 5, 6, 3, 2, 1, 0] rfl)
set_option maxHeartbeats 4000000 in
set_option maxRecDepth 100000 in
theorem m_X5_standing (l : Launch) (G : oG) (Z : oZ) {o : Nat} (ho : o < 2) (τ : oT) (nS : Nat) (nO : Nat) (nH : Nat) (hz : qOK τ nS nO nH) (x : Int32) : Met l yX5_standing wsX5_standing ({ frames := 0, cells := 0, slots := 0, locals := 0 } : Room) (va_Pc [.ref (ms G o 0), .int x] (PW G (mtw G Z o τ))) (oR (some (.int (qStandN τ x nO)))) 0 0 (fun _ => False) := by
  refine o_body (cc := cX5_standing) (by decide +kernel) rfl (Nat.le_of_ble_eq_true rfl) ?_
  intro p e s m below meth c ls hx hb hml hr hlocks hown hts hP hK hN hl
  have hown : s.vm.findClass RX5 = some m.cls := hown
  have hl : lv_has ls 4 [(0, .ref (ms G o 0)), (1, .int x)] := hl
  obtain ⟨hz1, hz2, hz3, hz4, hz5, hz6, hz7, hz8⟩ := id hz
  refine lv_iconst (v := 0) hx hb dX5_standing_0 (by decide) ?_
  refine lv_istore_n (lv' := [(2, .int 0), (0, .ref (ms G o 0)), (1, .int x)]) hx hb dX5_standing_1 rfl hl (by decide) rfl (fun ls hl => ?_)
  refine lv_iconst (v := 0) hx hb dX5_standing_2 (by decide) ?_
  refine lv_istore_n (lv' := [(3, .int 0), (2, .int 0), (0, .ref (ms G o 0)), (1, .int x)]) hx hb dX5_standing_3 rfl hl (by decide) rfl (fun ls hl => ?_)
  have lp4 : ∀ (d4 k : Nat), k + d4 = nO → ∀ x4_2 : Int32, x4_2 = (qStandN τ x k) → ∀ x4_3 : Int32, x4_3 = (nI k) → ∀ ls : Array Slot, lv_has ls 4 [(0, .ref (ms G o 0)), (1, .int x), (2, .int x4_2), (3, .int x4_3)] → W p l e ({ frames := 0, cells := 0, slots := 0, locals := 0 } : Room) s m ([.ref (ms G o 0), .int x] : List Value).toArray below meth c s.heap [] 0 0 (MQ below (oR (some (.int (qStandN τ x nO)))) ([.ref (ms G o 0), .int x] : List Value).toArray s 0 0 (fun _ => False)) (F0 m 4 ls []) := by
    intro d4
    induction d4 with
    | zero =>
      intro k hk4 x4_2 e4_2 x4_3 e4_3 ls hl
      subst e4_2
      subst e4_3
      have hk4 : k = nO := by omega
      refine lv_iload_n hx hb dX5_standing_4 rfl (lv_at hl 3 rfl) ?_
      refine lv_aload_n hx hb dX5_standing_5 rfl (lv_at hl 0 rfl) ?_
      refine va_get (D := G.1) (ci := 7) (v := .int (τ 40 0 2)) (C := RX5) (T := TX5) (N := 21) hx hb hts (fun w9 h9 => List.mem_cons_of_mem _ (List.mem_append_right _ (h9))) hown hK hP (3 + 18 * o + (0)) (mt_S G Z ho τ) rfl 7 (by decide) (hts (.fieldLink RX5 81 "OrganCensusModel$State" "organs" "I") (List.mem_of_getElem? (i := 1) rfl)) (fun _ h9 => h9) rfl dX5_standing_6 ?_
      refine lv_icmp_ge (tgt := 45) hx hb dX5_standing_9 (by decide) (fun c9 => ?_) (fun c9 => ?_)
      · have n9 := (o_nle (a := nO) (b := k) hz.2.2.1 rfl (by omega) (by omega)).mp c9
        refine lv_iload_n hx hb dX5_standing_45 rfl (lv_at hl 2 rfl) ?_
        exact o_iretR hx hb hr hlocks dX5_standing_46 (by rw [hk4])
      · have n9 := (mt (o_nle (a := nO) (b := k) hz.2.2.1 rfl (by omega) (by omega)).mpr) c9; omega
    | succ d4 ih4 =>
      intro k hk4 x4_2 e4_2 x4_3 e4_3 ls hl
      subst e4_2
      subst e4_3
      have hj4 : k < nO := by omega
      refine lv_iload_n hx hb dX5_standing_4 rfl (lv_at hl 3 rfl) ?_
      refine lv_aload_n hx hb dX5_standing_5 rfl (lv_at hl 0 rfl) ?_
      refine va_get (D := G.1) (ci := 7) (v := .int (τ 40 0 2)) (C := RX5) (T := TX5) (N := 21) hx hb hts (fun w9 h9 => List.mem_cons_of_mem _ (List.mem_append_right _ (h9))) hown hK hP (3 + 18 * o + (0)) (mt_S G Z ho τ) rfl 7 (by decide) (hts (.fieldLink RX5 81 "OrganCensusModel$State" "organs" "I") (List.mem_of_getElem? (i := 1) rfl)) (fun _ h9 => h9) rfl dX5_standing_6 ?_
      refine lv_icmp_ge (tgt := 45) hx hb dX5_standing_9 (by decide) (fun c9 => ?_) (fun c9 => ?_)
      · have n9 := (o_nle (a := nO) (b := k) hz.2.2.1 rfl (by omega) (by omega)).mp c9; omega
      · have n9 := (mt (o_nle (a := nO) (b := k) hz.2.2.1 rfl (by omega) (by omega)).mpr) c9
        refine lv_iload_n hx hb dX5_standing_12 rfl (lv_at hl 2 rfl) ?_
        refine lv_aload_n hx hb dX5_standing_13 rfl (lv_at hl 0 rfl) ?_
        refine va_get (D := G.1) (ci := 7) (v := .ref (ms G o 6)) (C := RX5) (T := TX5) (N := 21) hx hb hts (fun w9 h9 => List.mem_cons_of_mem _ (List.mem_append_right _ (h9))) hown hK hP (3 + 18 * o + (0)) (mt_S G Z ho τ) rfl 8 (by decide) (hts (.fieldLink RX5 31 "OrganCensusModel$State" "at" "[I") (List.mem_of_getElem? (i := 2) rfl)) (fun _ h9 => h9) rfl dX5_standing_14 ?_
        refine lv_iload_n hx hb dX5_standing_17 rfl (lv_at hl 3 rfl) ?_
        refine o_iald (k := k) hx hb hK hP (3 + 18 * o + (6)) 0 (mt_A6 G Z ho τ) rfl rfl (by omega) (by decide) dX5_standing_18 ?_
        refine lv_iload_n hx hb dX5_standing_19 rfl (lv_at hl 1 rfl) ?_
        refine lv_icmp_ne (tgt := 36) hx hb dX5_standing_20 (by decide) (fun c20 => ?_) (fun c20 => ?_)
        · refine lv_iconst (v := 0) hx hb dX5_standing_36 (by decide) ?_
          refine lv_iadd hx hb dX5_standing_37 ?_
          refine lv_istore_n (lv' := [(2, .int ((qStandN τ x k) + 0)), (0, .ref (ms G o 0)), (1, .int x), (3, .int (nI k))]) hx hb dX5_standing_38 rfl hl (by decide) rfl (fun ls hl => ?_)
          refine lv_iinc (v := nI (k + 1)) (lv' := [(3, .int (nI (k + 1))), (2, .int ((qStandN τ x k) + 0)), (0, .ref (ms G o 0)), (1, .int x)]) hx hb dX5_standing_39 hl (k := 3) rfl (nI_1 k) (by decide) rfl (fun ls hl => ?_)
          refine lv_goto (tgt := 4) hx hb dX5_standing_42 (by decide) ?_
          exact ih4 (k + 1) (by omega) _ (by simp [qStandN, qStd, bI, c9, c20]) _ (rfl) ls (lv_sub hl [2, 3, 1, 0] rfl)
        · refine lv_aload_n hx hb dX5_standing_23 rfl (lv_at hl 0 rfl) ?_
          refine va_get (D := G.1) (ci := 7) (v := .ref (ms G o 8)) (C := RX5) (T := TX5) (N := 21) hx hb hts (fun w9 h9 => List.mem_cons_of_mem _ (List.mem_append_right _ (h9))) hown hK hP (3 + 18 * o + (0)) (mt_S G Z ho τ) rfl 10 (by decide) (hts (.fieldLink RX5 37 "OrganCensusModel$State" "left" "[I") (List.mem_of_getElem? (i := 3) rfl)) (fun _ h9 => h9) rfl dX5_standing_24 ?_
          refine lv_iload_n hx hb dX5_standing_27 rfl (lv_at hl 3 rfl) ?_
          refine o_iald (k := k) hx hb hK hP (3 + 18 * o + (8)) 0 (mt_A8 G Z ho τ) rfl rfl (by omega) (by decide) dX5_standing_28 ?_
          refine lv_if_ne (tgt := 36) hx hb dX5_standing_29 (by decide) (fun c29 => ?_) (fun c29 => ?_)
          · refine lv_iconst (v := 0) hx hb dX5_standing_36 (by decide) ?_
            refine lv_iadd hx hb dX5_standing_37 ?_
            refine lv_istore_n (lv' := [(2, .int ((qStandN τ x k) + 0)), (0, .ref (ms G o 0)), (1, .int x), (3, .int (nI k))]) hx hb dX5_standing_38 rfl hl (by decide) rfl (fun ls hl => ?_)
            refine lv_iinc (v := nI (k + 1)) (lv' := [(3, .int (nI (k + 1))), (2, .int ((qStandN τ x k) + 0)), (0, .ref (ms G o 0)), (1, .int x)]) hx hb dX5_standing_39 hl (k := 3) rfl (nI_1 k) (by decide) rfl (fun ls hl => ?_)
            refine lv_goto (tgt := 4) hx hb dX5_standing_42 (by decide) ?_
            exact ih4 (k + 1) (by omega) _ (by simp [qStandN, qStd, bI, c9, c20, c29]) _ (rfl) ls (lv_sub hl [2, 3, 1, 0] rfl)
          · refine lv_iconst (v := 1) hx hb dX5_standing_32 (by decide) ?_
            refine lv_goto (tgt := 37) hx hb dX5_standing_33 (by decide) ?_
            refine lv_iadd hx hb dX5_standing_37 ?_
            refine lv_istore_n (lv' := [(2, .int ((qStandN τ x k) + 1)), (0, .ref (ms G o 0)), (1, .int x), (3, .int (nI k))]) hx hb dX5_standing_38 rfl hl (by decide) rfl (fun ls hl => ?_)
            refine lv_iinc (v := nI (k + 1)) (lv' := [(3, .int (nI (k + 1))), (2, .int ((qStandN τ x k) + 1)), (0, .ref (ms G o 0)), (1, .int x)]) hx hb dX5_standing_39 hl (k := 3) rfl (nI_1 k) (by decide) rfl (fun ls hl => ?_)
            refine lv_goto (tgt := 4) hx hb dX5_standing_42 (by decide) ?_
            exact ih4 (k + 1) (by omega) _ (by simp [qStandN, qStd, bI, c9, c20, c29]) _ (rfl) ls (lv_sub hl [2, 3, 1, 0] rfl)
  exact lp4 (nO) 0 (by omega) _ (rfl) _ (rfl) ls (lv_sub hl [2, 3, 1, 0] rfl)
set_option maxHeartbeats 4000000 in
set_option maxRecDepth 100000 in
theorem m_X5_pitchesWith (l : Launch) (G : oG) (Z : oZ) {o : Nat} (ho : o < 2) (τ : oT) (nS : Nat) (nO : Nat) (nH : Nat) (hz : qOK τ nS nO nH) (r : Nat) (ar : Int32) (er : ar = nI r) (hr6 : r < 6) (b : Bool) : Met l yX5_pitchesWith wsX5_pitchesWith ({ frames := 4, cells := 0, slots := 0, locals := 95 } : Room) (va_Pc [.ref (ms G o 0), .int ar, .int (bI b)] (PW G (mtw G Z o τ))) (oR (some (.int (qWith τ nO (nI r) b (qNp τ r))))) 0 0 (fun _ => False) := by
  subst er
  refine o_body (cc := cX5_pitchesWith) (by decide +kernel) rfl (Nat.le_of_ble_eq_true rfl) ?_
  intro p e s m below meth c ls hx hb hml hr hlocks hown hts hP hK hN hl
  have hown : s.vm.findClass RX5 = some m.cls := hown
  have hl : lv_has ls 5 [(0, .ref (ms G o 0)), (1, .int (nI r)), (2, .int (bI b))] := hl
  obtain ⟨hz1, hz2, hz3, hz4, hz5, hz6, hz7, hz8⟩ := id hz
  refine lv_iconst (v := 0) hx hb dX5_pitchesWith_0 (by decide) ?_
  refine lv_istore_n (lv' := [(3, .int 0), (0, .ref (ms G o 0)), (1, .int (nI r)), (2, .int (bI b))]) hx hb dX5_pitchesWith_1 rfl hl (by decide) rfl (fun ls hl => ?_)
  refine lv_iconst (v := 0) hx hb dX5_pitchesWith_2 (by decide) ?_
  refine lv_istore (lv' := [(4, .int 0), (3, .int 0), (0, .ref (ms G o 0)), (1, .int (nI r)), (2, .int (bI b))]) hx hb dX5_pitchesWith_3 hl (by decide) rfl (fun ls hl => ?_)
  have hp20 := (hz7 r (by omega)).2
  have lp5 : ∀ (d5 k : Nat), k + d5 = qNp τ r → ∀ x5_3 : Int32, x5_3 = (qWith τ nO (nI r) b k) → ∀ x5_4 : Int32, x5_4 = (nI k) → ∀ ls : Array Slot, lv_has ls 5 [(0, .ref (ms G o 0)), (1, .int (nI r)), (2, .int (bI b)), (3, .int x5_3), (4, .int x5_4)] → W p l e ({ frames := 4, cells := 0, slots := 0, locals := 95 } : Room) s m ([.ref (ms G o 0), .int (nI r), .int (bI b)] : List Value).toArray below meth c s.heap [] 0 0 (MQ below (oR (some (.int (qWith τ nO (nI r) b (qNp τ r))))) ([.ref (ms G o 0), .int (nI r), .int (bI b)] : List Value).toArray s 0 0 (fun _ => False)) (F0 m 5 ls []) := by
    intro d5
    induction d5 with
    | zero =>
      intro k hk5 x5_3 e5_3 x5_4 e5_4 ls hl
      subst e5_3
      subst e5_4
      have hk5 : k = qNp τ r := by omega
      refine lv_iload hx hb dX5_pitchesWith_5 (lv_at hl 4 rfl) ?_
      refine lv_aload_n hx hb dX5_pitchesWith_7 rfl (lv_at hl 0 rfl) ?_
      refine va_get (D := G.1) (ci := 7) (v := .ref (ms G o 1)) (C := RX5) (T := TX5) (N := 21) hx hb hts (fun w9 h9 => List.mem_cons_of_mem _ (List.mem_append_right _ (h9))) hown hK hP (3 + 18 * o + (0)) (mt_S G Z ho τ) rfl 2 (by decide) (hts (.fieldLink RX5 15 "OrganCensusModel$State" "pitches" "[I") (List.mem_of_getElem? (i := 1) rfl)) (fun _ h9 => h9) rfl dX5_pitchesWith_8 ?_
      refine lv_iload_n hx hb dX5_pitchesWith_11 rfl (lv_at hl 1 rfl) ?_
      refine o_iald (k := r) hx hb hK hP (3 + 18 * o + (1)) 0 (mt_A1 G Z ho τ) rfl rfl (by omega) (by decide) dX5_pitchesWith_12 ?_
      refine lv_icmp_ge (tgt := 64) hx hb dX5_pitchesWith_13 (by decide) (fun c13 => ?_) (fun c13 => ?_)
      · have n13 := (o_nle (a := qNp τ r) (b := k) (hz.2.2.2.2.2.2.1 r (by omega)).1 rfl (by omega) (by omega)).mp c13
        refine lv_iload_n hx hb dX5_pitchesWith_64 rfl (lv_at hl 3 rfl) ?_
        exact o_iretR hx hb hr hlocks dX5_pitchesWith_65 (by rw [hk5])
      · have n13 := (mt (o_nle (a := qNp τ r) (b := k) (hz.2.2.2.2.2.2.1 r (by omega)).1 rfl (by omega) (by omega)).mpr) c13; omega
    | succ d5 ih5 =>
      intro k hk5 x5_3 e5_3 x5_4 e5_4 ls hl
      subst e5_3
      subst e5_4
      have hj5 : k < qNp τ r := by omega
      refine lv_iload hx hb dX5_pitchesWith_5 (lv_at hl 4 rfl) ?_
      refine lv_aload_n hx hb dX5_pitchesWith_7 rfl (lv_at hl 0 rfl) ?_
      refine va_get (D := G.1) (ci := 7) (v := .ref (ms G o 1)) (C := RX5) (T := TX5) (N := 21) hx hb hts (fun w9 h9 => List.mem_cons_of_mem _ (List.mem_append_right _ (h9))) hown hK hP (3 + 18 * o + (0)) (mt_S G Z ho τ) rfl 2 (by decide) (hts (.fieldLink RX5 15 "OrganCensusModel$State" "pitches" "[I") (List.mem_of_getElem? (i := 1) rfl)) (fun _ h9 => h9) rfl dX5_pitchesWith_8 ?_
      refine lv_iload_n hx hb dX5_pitchesWith_11 rfl (lv_at hl 1 rfl) ?_
      refine o_iald (k := r) hx hb hK hP (3 + 18 * o + (1)) 0 (mt_A1 G Z ho τ) rfl rfl (by omega) (by decide) dX5_pitchesWith_12 ?_
      refine lv_icmp_ge (tgt := 64) hx hb dX5_pitchesWith_13 (by decide) (fun c13 => ?_) (fun c13 => ?_)
      · have n13 := (o_nle (a := qNp τ r) (b := k) (hz.2.2.2.2.2.2.1 r (by omega)).1 rfl (by omega) (by omega)).mp c13; omega
      · have n13 := (mt (o_nle (a := qNp τ r) (b := k) (hz.2.2.2.2.2.2.1 r (by omega)).1 rfl (by omega) (by omega)).mpr) c13
        refine lv_iload_n hx hb dX5_pitchesWith_16 rfl (lv_at hl 3 rfl) ?_
        refine lv_iload_n hx hb dX5_pitchesWith_17 rfl (lv_at hl 2 rfl) ?_
        refine lv_if_eq (tgt := 41) hx hb dX5_pitchesWith_18 (by decide) (fun c18 => ?_) (fun c18 => ?_)
        · have c18 := bI_eq.mp c18
          refine lv_aload_n hx hb dX5_pitchesWith_41 rfl (lv_at hl 0 rfl) ?_
          refine lv_iload_n hx hb dX5_pitchesWith_42 rfl (lv_at hl 1 rfl) ?_
          refine lv_iload hx hb dX5_pitchesWith_43 (lv_at hl 4 rfl) ?_
          refine o_cVi (q0 := 3 + 18 * o + (0)) (ci := 7) [.int (nI r), .int (nI k)] [.int (qWith τ nO (nI r) b k)] ⟨hx, hb, hml, hown, hts⟩ (m_X5_heard l G Z ho τ nS nO nH hz (nI r) (nI k)) (cwV 2 hts gX5_pitchesWith_X5_heard rfl rfl rfl (by decide +kernel) ⟨Nat.le_of_ble_eq_true rfl, Nat.le_of_ble_eq_true rfl⟩) hK hN hP rfl rfl (mt_S G Z ho τ) rfl hl.1 rfl (Nat.le_of_ble_eq_true rfl) dX5_pitchesWith_45 ⟨Nat.zero_le _, Nat.zero_le _⟩ ?_
          refine lv_if_lt (tgt := 55) hx hb dX5_pitchesWith_48 (by decide) (fun c48 => ?_) (fun c48 => ?_)
          · refine lv_iconst (v := 0) hx hb dX5_pitchesWith_55 (by decide) ?_
            refine lv_iadd hx hb dX5_pitchesWith_56 ?_
            refine lv_istore_n (lv' := [(3, .int ((qWith τ nO (nI r) b k) + 0)), (0, .ref (ms G o 0)), (1, .int (nI r)), (2, .int (bI b)), (4, .int (nI k))]) hx hb dX5_pitchesWith_57 rfl hl (by decide) rfl (fun ls hl => ?_)
            refine lv_iinc (v := nI (k + 1)) (lv' := [(4, .int (nI (k + 1))), (3, .int ((qWith τ nO (nI r) b k) + 0)), (0, .ref (ms G o 0)), (1, .int (nI r)), (2, .int (bI b))]) hx hb dX5_pitchesWith_58 hl (k := 4) rfl (nI_1 k) (by decide) rfl (fun ls hl => ?_)
            refine lv_goto (tgt := 5) hx hb dX5_pitchesWith_61 (by decide) ?_
            exact ih5 (k + 1) (by omega) _ (by simp [qWith, bI, c13, c18, c48]) _ (rfl) ls (lv_sub hl [2, 3, 4, 1, 0] rfl)
          · refine lv_iconst (v := 1) hx hb dX5_pitchesWith_51 (by decide) ?_
            refine lv_goto (tgt := 56) hx hb dX5_pitchesWith_52 (by decide) ?_
            refine lv_iadd hx hb dX5_pitchesWith_56 ?_
            refine lv_istore_n (lv' := [(3, .int ((qWith τ nO (nI r) b k) + 1)), (0, .ref (ms G o 0)), (1, .int (nI r)), (2, .int (bI b)), (4, .int (nI k))]) hx hb dX5_pitchesWith_57 rfl hl (by decide) rfl (fun ls hl => ?_)
            refine lv_iinc (v := nI (k + 1)) (lv' := [(4, .int (nI (k + 1))), (3, .int ((qWith τ nO (nI r) b k) + 1)), (0, .ref (ms G o 0)), (1, .int (nI r)), (2, .int (bI b))]) hx hb dX5_pitchesWith_58 hl (k := 4) rfl (nI_1 k) (by decide) rfl (fun ls hl => ?_)
            refine lv_goto (tgt := 5) hx hb dX5_pitchesWith_61 (by decide) ?_
            exact ih5 (k + 1) (by omega) _ (by simp [qWith, bI, c13, c18, c48]) _ (rfl) ls (lv_sub hl [2, 3, 4, 1, 0] rfl)
        · have c18 := bI_ne.mp c18
          refine lv_aload_n hx hb dX5_pitchesWith_21 rfl (lv_at hl 0 rfl) ?_
          refine lv_iload_n hx hb dX5_pitchesWith_22 rfl (lv_at hl 1 rfl) ?_
          refine lv_iload hx hb dX5_pitchesWith_23 (lv_at hl 4 rfl) ?_
          refine o_cVi (q0 := 3 + 18 * o + (0)) (ci := 7) [.int (nI r), .int (nI k)] [.int (qWith τ nO (nI r) b k)] ⟨hx, hb, hml, hown, hts⟩ (m_X5_heard l G Z ho τ nS nO nH hz (nI r) (nI k)) (cwV 2 hts gX5_pitchesWith_X5_heard rfl rfl rfl (by decide +kernel) ⟨Nat.le_of_ble_eq_true rfl, Nat.le_of_ble_eq_true rfl⟩) hK hN hP rfl rfl (mt_S G Z ho τ) rfl hl.1 rfl (Nat.le_of_ble_eq_true rfl) dX5_pitchesWith_25 ⟨Nat.zero_le _, Nat.zero_le _⟩ ?_
          refine lv_bipush (v := (-2)) hx hb dX5_pitchesWith_28 (by decide) ?_
          refine lv_icmp_ne (tgt := 37) hx hb dX5_pitchesWith_30 (by decide) (fun c30 => ?_) (fun c30 => ?_)
          · refine lv_iconst (v := 0) hx hb dX5_pitchesWith_37 (by decide) ?_
            refine lv_goto (tgt := 56) hx hb dX5_pitchesWith_38 (by decide) ?_
            refine lv_iadd hx hb dX5_pitchesWith_56 ?_
            refine lv_istore_n (lv' := [(3, .int ((qWith τ nO (nI r) b k) + 0)), (0, .ref (ms G o 0)), (1, .int (nI r)), (2, .int (bI b)), (4, .int (nI k))]) hx hb dX5_pitchesWith_57 rfl hl (by decide) rfl (fun ls hl => ?_)
            refine lv_iinc (v := nI (k + 1)) (lv' := [(4, .int (nI (k + 1))), (3, .int ((qWith τ nO (nI r) b k) + 0)), (0, .ref (ms G o 0)), (1, .int (nI r)), (2, .int (bI b))]) hx hb dX5_pitchesWith_58 hl (k := 4) rfl (nI_1 k) (by decide) rfl (fun ls hl => ?_)
            refine lv_goto (tgt := 5) hx hb dX5_pitchesWith_61 (by decide) ?_
            exact ih5 (k + 1) (by omega) _ (by simp [qWith, bI, c13, c18, c30]) _ (rfl) ls (lv_sub hl [2, 3, 4, 1, 0] rfl)
          · refine lv_iconst (v := 1) hx hb dX5_pitchesWith_33 (by decide) ?_
            refine lv_goto (tgt := 56) hx hb dX5_pitchesWith_34 (by decide) ?_
            refine lv_iadd hx hb dX5_pitchesWith_56 ?_
            refine lv_istore_n (lv' := [(3, .int ((qWith τ nO (nI r) b k) + 1)), (0, .ref (ms G o 0)), (1, .int (nI r)), (2, .int (bI b)), (4, .int (nI k))]) hx hb dX5_pitchesWith_57 rfl hl (by decide) rfl (fun ls hl => ?_)
            refine lv_iinc (v := nI (k + 1)) (lv' := [(4, .int (nI (k + 1))), (3, .int ((qWith τ nO (nI r) b k) + 1)), (0, .ref (ms G o 0)), (1, .int (nI r)), (2, .int (bI b))]) hx hb dX5_pitchesWith_58 hl (k := 4) rfl (nI_1 k) (by decide) rfl (fun ls hl => ?_)
            refine lv_goto (tgt := 5) hx hb dX5_pitchesWith_61 (by decide) ?_
            exact ih5 (k + 1) (by omega) _ (by simp [qWith, bI, c13, c18, c30]) _ (rfl) ls (lv_sub hl [2, 3, 4, 1, 0] rfl)
  exact lp5 (qNp τ r) 0 (by omega) _ (rfl) _ (rfl) ls (lv_sub hl [2, 3, 4, 1, 0] rfl)
set_option maxHeartbeats 4000000 in
set_option maxRecDepth 100000 in
theorem m_X5_complaintsOf (l : Launch) (G : oG) (Z : oZ) {o : Nat} (ho : o < 2) (τ : oT) (nS : Nat) (nO : Nat) (nH : Nat) (hz : qOK τ nS nO nH) (x : Int32) (y : Int32) : Met l yX5_complaintsOf wsX5_complaintsOf ({ frames := 0, cells := 0, slots := 0, locals := 0 } : Room) (va_Pc [.ref (ms G o 0), .int x, .int y] (PW G (mtw G Z o τ))) (oR (some (.int (qCo τ x y (nO * 6))))) 0 0 (fun _ => False) := by
  refine o_body (cc := cX5_complaintsOf) (by decide +kernel) rfl (Nat.le_of_ble_eq_true rfl) ?_
  intro p e s m below meth c ls hx hb hml hr hlocks hown hts hP hK hN hl
  have hown : s.vm.findClass RX5 = some m.cls := hown
  have hl : lv_has ls 5 [(0, .ref (ms G o 0)), (1, .int x), (2, .int y)] := hl
  obtain ⟨hz1, hz2, hz3, hz4, hz5, hz6, hz7, hz8⟩ := id hz
  refine lv_iconst (v := 0) hx hb dX5_complaintsOf_0 (by decide) ?_
  refine lv_istore_n (lv' := [(3, .int 0), (0, .ref (ms G o 0)), (1, .int x), (2, .int y)]) hx hb dX5_complaintsOf_1 rfl hl (by decide) rfl (fun ls hl => ?_)
  refine lv_iconst (v := 0) hx hb dX5_complaintsOf_2 (by decide) ?_
  refine lv_istore (lv' := [(4, .int 0), (3, .int 0), (0, .ref (ms G o 0)), (1, .int x), (2, .int y)]) hx hb dX5_complaintsOf_3 hl (by decide) rfl (fun ls hl => ?_)
  have lp5 : ∀ (d5 k : Nat), k + d5 = nO * 6 → ∀ x5_3 : Int32, x5_3 = (qCo τ x y k) → ∀ x5_4 : Int32, x5_4 = (nI k) → ∀ ls : Array Slot, lv_has ls 5 [(0, .ref (ms G o 0)), (1, .int x), (2, .int y), (3, .int x5_3), (4, .int x5_4)] → W p l e ({ frames := 0, cells := 0, slots := 0, locals := 0 } : Room) s m ([.ref (ms G o 0), .int x, .int y] : List Value).toArray below meth c s.heap [] 0 0 (MQ below (oR (some (.int (qCo τ x y (nO * 6))))) ([.ref (ms G o 0), .int x, .int y] : List Value).toArray s 0 0 (fun _ => False)) (F0 m 5 ls []) := by
    intro d5
    induction d5 with
    | zero =>
      intro k hk5 x5_3 e5_3 x5_4 e5_4 ls hl
      subst e5_3
      subst e5_4
      have hk5 : k = nO * 6 := by omega
      refine lv_iload hx hb dX5_complaintsOf_5 (lv_at hl 4 rfl) ?_
      refine lv_aload_n hx hb dX5_complaintsOf_7 rfl (lv_at hl 0 rfl) ?_
      refine va_get (D := G.1) (ci := 7) (v := .int (τ 40 0 2)) (C := RX5) (T := TX5) (N := 21) hx hb hts (fun w9 h9 => List.mem_cons_of_mem _ (List.mem_append_right _ (h9))) hown hK hP (3 + 18 * o + (0)) (mt_S G Z ho τ) rfl 7 (by decide) (hts (.fieldLink RX5 81 "OrganCensusModel$State" "organs" "I") (List.mem_of_getElem? (i := 1) rfl)) (fun _ h9 => h9) rfl dX5_complaintsOf_8 ?_
      refine lv_bipush (v := 6) hx hb dX5_complaintsOf_11 (by decide) ?_
      refine lv_imul hx hb dX5_complaintsOf_13 ?_
      refine lv_icmp_ge (tgt := 61) hx hb dX5_complaintsOf_14 (by decide) (fun c14 => ?_) (fun c14 => ?_)
      · have n14 := (o_nle (a := nO * 6) (b := k) (o_nmul hz.2.2.1 (by decide)) rfl (by omega) (by omega)).mp c14
        refine lv_iload_n hx hb dX5_complaintsOf_61 rfl (lv_at hl 3 rfl) ?_
        exact o_iretR hx hb hr hlocks dX5_complaintsOf_62 (by rw [hk5])
      · have n14 := (mt (o_nle (a := nO * 6) (b := k) (o_nmul hz.2.2.1 (by decide)) rfl (by omega) (by omega)).mpr) c14; omega
    | succ d5 ih5 =>
      intro k hk5 x5_3 e5_3 x5_4 e5_4 ls hl
      subst e5_3
      subst e5_4
      have hj5 : k < nO * 6 := by omega
      refine lv_iload hx hb dX5_complaintsOf_5 (lv_at hl 4 rfl) ?_
      refine lv_aload_n hx hb dX5_complaintsOf_7 rfl (lv_at hl 0 rfl) ?_
      refine va_get (D := G.1) (ci := 7) (v := .int (τ 40 0 2)) (C := RX5) (T := TX5) (N := 21) hx hb hts (fun w9 h9 => List.mem_cons_of_mem _ (List.mem_append_right _ (h9))) hown hK hP (3 + 18 * o + (0)) (mt_S G Z ho τ) rfl 7 (by decide) (hts (.fieldLink RX5 81 "OrganCensusModel$State" "organs" "I") (List.mem_of_getElem? (i := 1) rfl)) (fun _ h9 => h9) rfl dX5_complaintsOf_8 ?_
      refine lv_bipush (v := 6) hx hb dX5_complaintsOf_11 (by decide) ?_
      refine lv_imul hx hb dX5_complaintsOf_13 ?_
      refine lv_icmp_ge (tgt := 61) hx hb dX5_complaintsOf_14 (by decide) (fun c14 => ?_) (fun c14 => ?_)
      · have n14 := (o_nle (a := nO * 6) (b := k) (o_nmul hz.2.2.1 (by decide)) rfl (by omega) (by omega)).mp c14; omega
      · have n14 := (mt (o_nle (a := nO * 6) (b := k) (o_nmul hz.2.2.1 (by decide)) rfl (by omega) (by omega)).mpr) c14
        refine lv_iload_n hx hb dX5_complaintsOf_17 rfl (lv_at hl 1 rfl) ?_
        refine lv_iconst (v := (-1)) hx hb dX5_complaintsOf_18 (by decide) ?_
        refine lv_icmp_eq (tgt := 31) hx hb dX5_complaintsOf_19 (by decide) (fun c19 => ?_) (fun c19 => ?_)
        · refine lv_iload_n hx hb dX5_complaintsOf_31 rfl (lv_at hl 2 rfl) ?_
          refine lv_iconst (v := (-1)) hx hb dX5_complaintsOf_32 (by decide) ?_
          refine lv_icmp_eq (tgt := 45) hx hb dX5_complaintsOf_33 (by decide) (fun c33 => ?_) (fun c33 => ?_)
          · refine lv_iload_n hx hb dX5_complaintsOf_45 rfl (lv_at hl 3 rfl) ?_
            refine lv_aload_n hx hb dX5_complaintsOf_46 rfl (lv_at hl 0 rfl) ?_
            refine va_get (D := G.1) (ci := 7) (v := .ref (ms G o 14)) (C := RX5) (T := TX5) (N := 21) hx hb hts (fun w9 h9 => List.mem_cons_of_mem _ (List.mem_append_right _ (h9))) hown hK hP (3 + 18 * o + (0)) (mt_S G Z ho τ) rfl 16 (by decide) (hts (.fieldLink RX5 55 "OrganCensusModel$State" "complaints" "[I") (List.mem_of_getElem? (i := 2) rfl)) (fun _ h9 => h9) rfl dX5_complaintsOf_47 ?_
            refine lv_iload hx hb dX5_complaintsOf_50 (lv_at hl 4 rfl) ?_
            refine o_iald (k := k) hx hb hK hP (3 + 18 * o + (14)) 0 (mt_A14 G Z ho τ) rfl rfl (by omega) (by decide) dX5_complaintsOf_52 ?_
            refine lv_iadd hx hb dX5_complaintsOf_53 ?_
            refine lv_istore_n (lv' := [(3, .int ((qCo τ x y k) + (τ 14 0 k))), (0, .ref (ms G o 0)), (1, .int x), (2, .int y), (4, .int (nI k))]) hx hb dX5_complaintsOf_54 rfl hl (by decide) rfl (fun ls hl => ?_)
            refine lv_iinc (v := nI (k + 1)) (lv' := [(4, .int (nI (k + 1))), (3, .int ((qCo τ x y k) + (τ 14 0 k))), (0, .ref (ms G o 0)), (1, .int x), (2, .int y)]) hx hb dX5_complaintsOf_55 hl (k := 4) rfl (nI_1 k) (by decide) rfl (fun ls hl => ?_)
            refine lv_goto (tgt := 5) hx hb dX5_complaintsOf_58 (by decide) ?_
            exact ih5 (k + 1) (by omega) _ (by simp [qCo, c14, c19, c33]) _ (rfl) ls (lv_sub hl [2, 3, 4, 1, 0] rfl)
          · refine lv_iload hx hb dX5_complaintsOf_36 (lv_at hl 4 rfl) ?_
            refine lv_bipush (v := 6) hx hb dX5_complaintsOf_38 (by decide) ?_
            refine lv_idiv hx hb dX5_complaintsOf_40 (by decide) ?_
            refine lv_iload_n hx hb dX5_complaintsOf_41 rfl (lv_at hl 2 rfl) ?_
            refine lv_icmp_ne (tgt := 55) hx hb dX5_complaintsOf_42 (by decide) (fun c42 => ?_) (fun c42 => ?_)
            · refine lv_iinc (v := nI (k + 1)) (lv' := [(4, .int (nI (k + 1))), (0, .ref (ms G o 0)), (1, .int x), (2, .int y), (3, .int (qCo τ x y k))]) hx hb dX5_complaintsOf_55 hl (k := 4) rfl (nI_1 k) (by decide) rfl (fun ls hl => ?_)
              refine lv_goto (tgt := 5) hx hb dX5_complaintsOf_58 (by decide) ?_
              exact ih5 (k + 1) (by omega) _ (by simp [qCo, c14, c19, c33, c42]) _ (rfl) ls (lv_sub hl [1, 2, 3, 4, 0] rfl)
            · refine lv_iload_n hx hb dX5_complaintsOf_45 rfl (lv_at hl 3 rfl) ?_
              refine lv_aload_n hx hb dX5_complaintsOf_46 rfl (lv_at hl 0 rfl) ?_
              refine va_get (D := G.1) (ci := 7) (v := .ref (ms G o 14)) (C := RX5) (T := TX5) (N := 21) hx hb hts (fun w9 h9 => List.mem_cons_of_mem _ (List.mem_append_right _ (h9))) hown hK hP (3 + 18 * o + (0)) (mt_S G Z ho τ) rfl 16 (by decide) (hts (.fieldLink RX5 55 "OrganCensusModel$State" "complaints" "[I") (List.mem_of_getElem? (i := 2) rfl)) (fun _ h9 => h9) rfl dX5_complaintsOf_47 ?_
              refine lv_iload hx hb dX5_complaintsOf_50 (lv_at hl 4 rfl) ?_
              refine o_iald (k := k) hx hb hK hP (3 + 18 * o + (14)) 0 (mt_A14 G Z ho τ) rfl rfl (by omega) (by decide) dX5_complaintsOf_52 ?_
              refine lv_iadd hx hb dX5_complaintsOf_53 ?_
              refine lv_istore_n (lv' := [(3, .int ((qCo τ x y k) + (τ 14 0 k))), (0, .ref (ms G o 0)), (1, .int x), (2, .int y), (4, .int (nI k))]) hx hb dX5_complaintsOf_54 rfl hl (by decide) rfl (fun ls hl => ?_)
              refine lv_iinc (v := nI (k + 1)) (lv' := [(4, .int (nI (k + 1))), (3, .int ((qCo τ x y k) + (τ 14 0 k))), (0, .ref (ms G o 0)), (1, .int x), (2, .int y)]) hx hb dX5_complaintsOf_55 hl (k := 4) rfl (nI_1 k) (by decide) rfl (fun ls hl => ?_)
              refine lv_goto (tgt := 5) hx hb dX5_complaintsOf_58 (by decide) ?_
              exact ih5 (k + 1) (by omega) _ (by simp [qCo, c14, c19, c33, c42]) _ (rfl) ls (lv_sub hl [2, 3, 4, 1, 0] rfl)
        · refine lv_iload hx hb dX5_complaintsOf_22 (lv_at hl 4 rfl) ?_
          refine lv_bipush (v := 6) hx hb dX5_complaintsOf_24 (by decide) ?_
          refine o_irem hx hb dX5_complaintsOf_26 (by decide) ?_
          refine lv_iload_n hx hb dX5_complaintsOf_27 rfl (lv_at hl 1 rfl) ?_
          refine lv_icmp_ne (tgt := 55) hx hb dX5_complaintsOf_28 (by decide) (fun c28 => ?_) (fun c28 => ?_)
          · refine lv_iinc (v := nI (k + 1)) (lv' := [(4, .int (nI (k + 1))), (0, .ref (ms G o 0)), (1, .int x), (2, .int y), (3, .int (qCo τ x y k))]) hx hb dX5_complaintsOf_55 hl (k := 4) rfl (nI_1 k) (by decide) rfl (fun ls hl => ?_)
            refine lv_goto (tgt := 5) hx hb dX5_complaintsOf_58 (by decide) ?_
            exact ih5 (k + 1) (by omega) _ (by simp [qCo, c14, c19, c28]) _ (rfl) ls (lv_sub hl [1, 2, 3, 4, 0] rfl)
          · refine lv_iload_n hx hb dX5_complaintsOf_31 rfl (lv_at hl 2 rfl) ?_
            refine lv_iconst (v := (-1)) hx hb dX5_complaintsOf_32 (by decide) ?_
            refine lv_icmp_eq (tgt := 45) hx hb dX5_complaintsOf_33 (by decide) (fun c33 => ?_) (fun c33 => ?_)
            · refine lv_iload_n hx hb dX5_complaintsOf_45 rfl (lv_at hl 3 rfl) ?_
              refine lv_aload_n hx hb dX5_complaintsOf_46 rfl (lv_at hl 0 rfl) ?_
              refine va_get (D := G.1) (ci := 7) (v := .ref (ms G o 14)) (C := RX5) (T := TX5) (N := 21) hx hb hts (fun w9 h9 => List.mem_cons_of_mem _ (List.mem_append_right _ (h9))) hown hK hP (3 + 18 * o + (0)) (mt_S G Z ho τ) rfl 16 (by decide) (hts (.fieldLink RX5 55 "OrganCensusModel$State" "complaints" "[I") (List.mem_of_getElem? (i := 2) rfl)) (fun _ h9 => h9) rfl dX5_complaintsOf_47 ?_
              refine lv_iload hx hb dX5_complaintsOf_50 (lv_at hl 4 rfl) ?_
              refine o_iald (k := k) hx hb hK hP (3 + 18 * o + (14)) 0 (mt_A14 G Z ho τ) rfl rfl (by omega) (by decide) dX5_complaintsOf_52 ?_
              refine lv_iadd hx hb dX5_complaintsOf_53 ?_
              refine lv_istore_n (lv' := [(3, .int ((qCo τ x y k) + (τ 14 0 k))), (0, .ref (ms G o 0)), (1, .int x), (2, .int y), (4, .int (nI k))]) hx hb dX5_complaintsOf_54 rfl hl (by decide) rfl (fun ls hl => ?_)
              refine lv_iinc (v := nI (k + 1)) (lv' := [(4, .int (nI (k + 1))), (3, .int ((qCo τ x y k) + (τ 14 0 k))), (0, .ref (ms G o 0)), (1, .int x), (2, .int y)]) hx hb dX5_complaintsOf_55 hl (k := 4) rfl (nI_1 k) (by decide) rfl (fun ls hl => ?_)
              refine lv_goto (tgt := 5) hx hb dX5_complaintsOf_58 (by decide) ?_
              exact ih5 (k + 1) (by omega) _ (by simp [qCo, c14, c19, c28, c33]) _ (rfl) ls (lv_sub hl [2, 3, 4, 1, 0] rfl)
            · refine lv_iload hx hb dX5_complaintsOf_36 (lv_at hl 4 rfl) ?_
              refine lv_bipush (v := 6) hx hb dX5_complaintsOf_38 (by decide) ?_
              refine lv_idiv hx hb dX5_complaintsOf_40 (by decide) ?_
              refine lv_iload_n hx hb dX5_complaintsOf_41 rfl (lv_at hl 2 rfl) ?_
              refine lv_icmp_ne (tgt := 55) hx hb dX5_complaintsOf_42 (by decide) (fun c42 => ?_) (fun c42 => ?_)
              · refine lv_iinc (v := nI (k + 1)) (lv' := [(4, .int (nI (k + 1))), (0, .ref (ms G o 0)), (1, .int x), (2, .int y), (3, .int (qCo τ x y k))]) hx hb dX5_complaintsOf_55 hl (k := 4) rfl (nI_1 k) (by decide) rfl (fun ls hl => ?_)
                refine lv_goto (tgt := 5) hx hb dX5_complaintsOf_58 (by decide) ?_
                exact ih5 (k + 1) (by omega) _ (by simp [qCo, c14, c19, c28, c33, c42]) _ (rfl) ls (lv_sub hl [1, 2, 3, 4, 0] rfl)
              · refine lv_iload_n hx hb dX5_complaintsOf_45 rfl (lv_at hl 3 rfl) ?_
                refine lv_aload_n hx hb dX5_complaintsOf_46 rfl (lv_at hl 0 rfl) ?_
                refine va_get (D := G.1) (ci := 7) (v := .ref (ms G o 14)) (C := RX5) (T := TX5) (N := 21) hx hb hts (fun w9 h9 => List.mem_cons_of_mem _ (List.mem_append_right _ (h9))) hown hK hP (3 + 18 * o + (0)) (mt_S G Z ho τ) rfl 16 (by decide) (hts (.fieldLink RX5 55 "OrganCensusModel$State" "complaints" "[I") (List.mem_of_getElem? (i := 2) rfl)) (fun _ h9 => h9) rfl dX5_complaintsOf_47 ?_
                refine lv_iload hx hb dX5_complaintsOf_50 (lv_at hl 4 rfl) ?_
                refine o_iald (k := k) hx hb hK hP (3 + 18 * o + (14)) 0 (mt_A14 G Z ho τ) rfl rfl (by omega) (by decide) dX5_complaintsOf_52 ?_
                refine lv_iadd hx hb dX5_complaintsOf_53 ?_
                refine lv_istore_n (lv' := [(3, .int ((qCo τ x y k) + (τ 14 0 k))), (0, .ref (ms G o 0)), (1, .int x), (2, .int y), (4, .int (nI k))]) hx hb dX5_complaintsOf_54 rfl hl (by decide) rfl (fun ls hl => ?_)
                refine lv_iinc (v := nI (k + 1)) (lv' := [(4, .int (nI (k + 1))), (3, .int ((qCo τ x y k) + (τ 14 0 k))), (0, .ref (ms G o 0)), (1, .int x), (2, .int y)]) hx hb dX5_complaintsOf_55 hl (k := 4) rfl (nI_1 k) (by decide) rfl (fun ls hl => ?_)
                refine lv_goto (tgt := 5) hx hb dX5_complaintsOf_58 (by decide) ?_
                exact ih5 (k + 1) (by omega) _ (by simp [qCo, c14, c19, c28, c33, c42]) _ (rfl) ls (lv_sub hl [2, 3, 4, 1, 0] rfl)
  exact lp5 (nO * 6) 0 (by omega) _ (rfl) _ (rfl) ls (lv_sub hl [2, 3, 4, 1, 0] rfl)
set_option maxHeartbeats 4000000 in
set_option maxRecDepth 100000 in
theorem m_X5_over (l : Launch) (G : oG) (Z : oZ) {o : Nat} (ho : o < 2) (τ : oT) (nS : Nat) (nO : Nat) (nH : Nat) (hz : qOK τ nS nO nH) : Met l yX5_over wsX5_over ({ frames := 0, cells := 0, slots := 0, locals := 0 } : Room) (va_Pc [.ref (ms G o 0), .ref (ms G o 10)] (PW G (mtw G Z o τ))) (oR (some (.int (qOver τ nO)))) 0 0 (fun _ => False) := by
  refine o_body (cc := cX5_over) (by decide +kernel) rfl (Nat.le_of_ble_eq_true rfl) ?_
  intro p e s m below meth c ls hx hb hml hr hlocks hown hts hP hK hN hl
  have hown : s.vm.findClass RX5 = some m.cls := hown
  have hl : lv_has ls 4 [(0, .ref (ms G o 0)), (1, .ref (ms G o 10))] := hl
  obtain ⟨hz1, hz2, hz3, hz4, hz5, hz6, hz7, hz8⟩ := id hz
  refine lv_iconst (v := 0) hx hb dX5_over_0 (by decide) ?_
  refine lv_istore_n (lv' := [(2, .int 0), (0, .ref (ms G o 0)), (1, .ref (ms G o 10))]) hx hb dX5_over_1 rfl hl (by decide) rfl (fun ls hl => ?_)
  refine lv_iconst (v := 0) hx hb dX5_over_2 (by decide) ?_
  refine lv_istore_n (lv' := [(3, .int 0), (2, .int 0), (0, .ref (ms G o 0)), (1, .ref (ms G o 10))]) hx hb dX5_over_3 rfl hl (by decide) rfl (fun ls hl => ?_)
  have lp4 : ∀ (d4 k : Nat), k + d4 = nO → ∀ x4_2 : Int32, x4_2 = (qOver τ k) → ∀ x4_3 : Int32, x4_3 = (nI k) → ∀ ls : Array Slot, lv_has ls 4 [(0, .ref (ms G o 0)), (1, .ref (ms G o 10)), (2, .int x4_2), (3, .int x4_3)] → W p l e ({ frames := 0, cells := 0, slots := 0, locals := 0 } : Room) s m ([.ref (ms G o 0), .ref (ms G o 10)] : List Value).toArray below meth c s.heap [] 0 0 (MQ below (oR (some (.int (qOver τ nO)))) ([.ref (ms G o 0), .ref (ms G o 10)] : List Value).toArray s 0 0 (fun _ => False)) (F0 m 4 ls []) := by
    intro d4
    induction d4 with
    | zero =>
      intro k hk4 x4_2 e4_2 x4_3 e4_3 ls hl
      subst e4_2
      subst e4_3
      have hk4 : k = nO := by omega
      refine lv_iload_n hx hb dX5_over_4 rfl (lv_at hl 3 rfl) ?_
      refine lv_aload_n hx hb dX5_over_5 rfl (lv_at hl 0 rfl) ?_
      refine va_get (D := G.1) (ci := 7) (v := .int (τ 40 0 2)) (C := RX5) (T := TX5) (N := 21) hx hb hts (fun w9 h9 => List.mem_cons_of_mem _ (List.mem_append_right _ (h9))) hown hK hP (3 + 18 * o + (0)) (mt_S G Z ho τ) rfl 7 (by decide) (hts (.fieldLink RX5 81 "OrganCensusModel$State" "organs" "I") (List.mem_of_getElem? (i := 1) rfl)) (fun _ h9 => h9) rfl dX5_over_6 ?_
      refine lv_icmp_ge (tgt := 24) hx hb dX5_over_9 (by decide) (fun c9 => ?_) (fun c9 => ?_)
      · have n9 := (o_nle (a := nO) (b := k) hz.2.2.1 rfl (by omega) (by omega)).mp c9
        refine lv_iload_n hx hb dX5_over_24 rfl (lv_at hl 2 rfl) ?_
        exact o_iretR hx hb hr hlocks dX5_over_25 (by rw [hk4])
      · have n9 := (mt (o_nle (a := nO) (b := k) hz.2.2.1 rfl (by omega) (by omega)).mpr) c9; omega
    | succ d4 ih4 =>
      intro k hk4 x4_2 e4_2 x4_3 e4_3 ls hl
      subst e4_2
      subst e4_3
      have hj4 : k < nO := by omega
      refine lv_iload_n hx hb dX5_over_4 rfl (lv_at hl 3 rfl) ?_
      refine lv_aload_n hx hb dX5_over_5 rfl (lv_at hl 0 rfl) ?_
      refine va_get (D := G.1) (ci := 7) (v := .int (τ 40 0 2)) (C := RX5) (T := TX5) (N := 21) hx hb hts (fun w9 h9 => List.mem_cons_of_mem _ (List.mem_append_right _ (h9))) hown hK hP (3 + 18 * o + (0)) (mt_S G Z ho τ) rfl 7 (by decide) (hts (.fieldLink RX5 81 "OrganCensusModel$State" "organs" "I") (List.mem_of_getElem? (i := 1) rfl)) (fun _ h9 => h9) rfl dX5_over_6 ?_
      refine lv_icmp_ge (tgt := 24) hx hb dX5_over_9 (by decide) (fun c9 => ?_) (fun c9 => ?_)
      · have n9 := (o_nle (a := nO) (b := k) hz.2.2.1 rfl (by omega) (by omega)).mp c9; omega
      · have n9 := (mt (o_nle (a := nO) (b := k) hz.2.2.1 rfl (by omega) (by omega)).mpr) c9
        refine lv_iload_n hx hb dX5_over_12 rfl (lv_at hl 2 rfl) ?_
        refine lv_aload_n hx hb dX5_over_13 rfl (lv_at hl 1 rfl) ?_
        refine lv_iload_n hx hb dX5_over_14 rfl (lv_at hl 3 rfl) ?_
        refine o_iald (k := k) hx hb hK hP (3 + 18 * o + (10)) 0 (mt_A10 G Z ho τ) rfl rfl (by omega) (by decide) dX5_over_15 ?_
        refine lv_iadd hx hb dX5_over_16 ?_
        refine lv_istore_n (lv' := [(2, .int ((qOver τ k) + (τ 10 0 k))), (0, .ref (ms G o 0)), (1, .ref (ms G o 10)), (3, .int (nI k))]) hx hb dX5_over_17 rfl hl (by decide) rfl (fun ls hl => ?_)
        refine lv_iinc (v := nI (k + 1)) (lv' := [(3, .int (nI (k + 1))), (2, .int ((qOver τ k) + (τ 10 0 k))), (0, .ref (ms G o 0)), (1, .ref (ms G o 10))]) hx hb dX5_over_18 hl (k := 3) rfl (nI_1 k) (by decide) rfl (fun ls hl => ?_)
        refine lv_goto (tgt := 4) hx hb dX5_over_21 (by decide) ?_
        exact ih4 (k + 1) (by omega) _ (rfl) _ (rfl) ls (lv_sub hl [2, 3, 1, 0] rfl)
  exact lp4 (nO) 0 (by omega) _ (rfl) _ (rfl) ls (lv_sub hl [2, 3, 1, 0] rfl)
set_option maxHeartbeats 4000000 in
set_option maxRecDepth 100000 in
theorem m_X5_banishments (l : Launch) (G : oG) (Z : oZ) {o : Nat} (ho : o < 2) (τ : oT) (nS : Nat) (nO : Nat) (nH : Nat) (hz : qOK τ nS nO nH) (i : Nat) (ai : Int32) (ei : ai = nI i) (hi : i < nO) : Met l yX5_banishments wsX5_banishments ({ frames := 0, cells := 0, slots := 0, locals := 0 } : Room) (va_Pc [.ref (ms G o 0), .int ai] (PW G (mtw G Z o τ))) (oR (some (.int (qBS τ i nS)))) 0 0 (fun _ => False) := by
  subst ei
  refine o_body (cc := cX5_banishments) (by decide +kernel) rfl (Nat.le_of_ble_eq_true rfl) ?_
  intro p e s m below meth c ls hx hb hml hr hlocks hown hts hP hK hN hl
  have hown : s.vm.findClass RX5 = some m.cls := hown
  have hl : lv_has ls 4 [(0, .ref (ms G o 0)), (1, .int (nI i))] := hl
  obtain ⟨hz1, hz2, hz3, hz4, hz5, hz6, hz7, hz8⟩ := id hz
  refine lv_iconst (v := 0) hx hb dX5_banishments_0 (by decide) ?_
  refine lv_istore_n (lv' := [(2, .int 0), (0, .ref (ms G o 0)), (1, .int (nI i))]) hx hb dX5_banishments_1 rfl hl (by decide) rfl (fun ls hl => ?_)
  refine lv_iconst (v := 0) hx hb dX5_banishments_2 (by decide) ?_
  refine lv_istore_n (lv' := [(3, .int 0), (2, .int 0), (0, .ref (ms G o 0)), (1, .int (nI i))]) hx hb dX5_banishments_3 rfl hl (by decide) rfl (fun ls hl => ?_)
  have lp4 : ∀ (d4 k : Nat), k + d4 = nS → ∀ x4_2 : Int32, x4_2 = (qBS τ i k) → ∀ x4_3 : Int32, x4_3 = (nI k) → ∀ ls : Array Slot, lv_has ls 4 [(0, .ref (ms G o 0)), (1, .int (nI i)), (2, .int x4_2), (3, .int x4_3)] → W p l e ({ frames := 0, cells := 0, slots := 0, locals := 0 } : Room) s m ([.ref (ms G o 0), .int (nI i)] : List Value).toArray below meth c s.heap [] 0 0 (MQ below (oR (some (.int (qBS τ i nS)))) ([.ref (ms G o 0), .int (nI i)] : List Value).toArray s 0 0 (fun _ => False)) (F0 m 4 ls []) := by
    intro d4
    induction d4 with
    | zero =>
      intro k hk4 x4_2 e4_2 x4_3 e4_3 ls hl
      subst e4_2
      subst e4_3
      have hk4 : k = nS := by omega
      refine lv_iload_n hx hb dX5_banishments_4 rfl (lv_at hl 3 rfl) ?_
      refine lv_aload_n hx hb dX5_banishments_5 rfl (lv_at hl 0 rfl) ?_
      refine va_get (D := G.1) (ci := 7) (v := .int (τ 40 0 1)) (C := RX5) (T := TX5) (N := 21) hx hb hts (fun w9 h9 => List.mem_cons_of_mem _ (List.mem_append_right _ (h9))) hown hK hP (3 + 18 * o + (0)) (mt_S G Z ho τ) rfl 1 (by decide) (hts (.fieldLink RX5 78 "OrganCensusModel$State" "streets" "I") (List.mem_of_getElem? (i := 1) rfl)) (fun _ h9 => h9) rfl dX5_banishments_6 ?_
      refine lv_icmp_ge (tgt := 40) hx hb dX5_banishments_9 (by decide) (fun c9 => ?_) (fun c9 => ?_)
      · have n9 := (o_nle (a := nS) (b := k) hz.1 rfl (by omega) (by omega)).mp c9
        refine lv_iload_n hx hb dX5_banishments_40 rfl (lv_at hl 2 rfl) ?_
        exact o_iretR hx hb hr hlocks dX5_banishments_41 (by rw [hk4])
      · have n9 := (mt (o_nle (a := nS) (b := k) hz.1 rfl (by omega) (by omega)).mpr) c9; omega
    | succ d4 ih4 =>
      intro k hk4 x4_2 e4_2 x4_3 e4_3 ls hl
      subst e4_2
      subst e4_3
      have hj4 : k < nS := by omega
      refine lv_iload_n hx hb dX5_banishments_4 rfl (lv_at hl 3 rfl) ?_
      refine lv_aload_n hx hb dX5_banishments_5 rfl (lv_at hl 0 rfl) ?_
      refine va_get (D := G.1) (ci := 7) (v := .int (τ 40 0 1)) (C := RX5) (T := TX5) (N := 21) hx hb hts (fun w9 h9 => List.mem_cons_of_mem _ (List.mem_append_right _ (h9))) hown hK hP (3 + 18 * o + (0)) (mt_S G Z ho τ) rfl 1 (by decide) (hts (.fieldLink RX5 78 "OrganCensusModel$State" "streets" "I") (List.mem_of_getElem? (i := 1) rfl)) (fun _ h9 => h9) rfl dX5_banishments_6 ?_
      refine lv_icmp_ge (tgt := 40) hx hb dX5_banishments_9 (by decide) (fun c9 => ?_) (fun c9 => ?_)
      · have n9 := (o_nle (a := nS) (b := k) hz.1 rfl (by omega) (by omega)).mp c9; omega
      · have n9 := (mt (o_nle (a := nS) (b := k) hz.1 rfl (by omega) (by omega)).mpr) c9
        refine lv_iload_n hx hb dX5_banishments_12 rfl (lv_at hl 2 rfl) ?_
        refine lv_aload_n hx hb dX5_banishments_13 rfl (lv_at hl 0 rfl) ?_
        refine va_get (D := G.1) (ci := 7) (v := .ref (ms G o 15)) (C := RX5) (T := TX5) (N := 21) hx hb hts (fun w9 h9 => List.mem_cons_of_mem _ (List.mem_append_right _ (h9))) hown hK hP (3 + 18 * o + (0)) (mt_S G Z ho τ) rfl 17 (by decide) (hts (.fieldLink RX5 58 "OrganCensusModel$State" "banished" "[I") (List.mem_of_getElem? (i := 2) rfl)) (fun _ h9 => h9) rfl dX5_banishments_14 ?_
        refine lv_bipush (v := 6) hx hb dX5_banishments_17 (by decide) ?_
        refine lv_iload_n hx hb dX5_banishments_19 rfl (lv_at hl 1 rfl) ?_
        refine lv_imul hx hb dX5_banishments_20 ?_
        refine lv_iload_n hx hb dX5_banishments_21 rfl (lv_at hl 3 rfl) ?_
        refine lv_iadd hx hb dX5_banishments_22 ?_
        refine o_iald (k := (6 * i) + k) hx hb hK hP (3 + 18 * o + (15)) 0 (mt_A15 G Z ho τ) rfl (o_nadd (o_nmul (by decide) rfl) rfl) (by omega) (by decide) dX5_banishments_23 ?_
        refine lv_if_le (tgt := 31) hx hb dX5_banishments_24 (by decide) (fun c24 => ?_) (fun c24 => ?_)
        · refine lv_iconst (v := 0) hx hb dX5_banishments_31 (by decide) ?_
          refine lv_iadd hx hb dX5_banishments_32 ?_
          refine lv_istore_n (lv' := [(2, .int ((qBS τ i k) + 0)), (0, .ref (ms G o 0)), (1, .int (nI i)), (3, .int (nI k))]) hx hb dX5_banishments_33 rfl hl (by decide) rfl (fun ls hl => ?_)
          refine lv_iinc (v := nI (k + 1)) (lv' := [(3, .int (nI (k + 1))), (2, .int ((qBS τ i k) + 0)), (0, .ref (ms G o 0)), (1, .int (nI i))]) hx hb dX5_banishments_34 hl (k := 3) rfl (nI_1 k) (by decide) rfl (fun ls hl => ?_)
          refine lv_goto (tgt := 4) hx hb dX5_banishments_37 (by decide) ?_
          exact ih4 (k + 1) (by omega) _ (by simp [qBS, bI, c9, c24]) _ (rfl) ls (lv_sub hl [2, 3, 1, 0] rfl)
        · refine lv_iconst (v := 1) hx hb dX5_banishments_27 (by decide) ?_
          refine lv_goto (tgt := 32) hx hb dX5_banishments_28 (by decide) ?_
          refine lv_iadd hx hb dX5_banishments_32 ?_
          refine lv_istore_n (lv' := [(2, .int ((qBS τ i k) + 1)), (0, .ref (ms G o 0)), (1, .int (nI i)), (3, .int (nI k))]) hx hb dX5_banishments_33 rfl hl (by decide) rfl (fun ls hl => ?_)
          refine lv_iinc (v := nI (k + 1)) (lv' := [(3, .int (nI (k + 1))), (2, .int ((qBS τ i k) + 1)), (0, .ref (ms G o 0)), (1, .int (nI i))]) hx hb dX5_banishments_34 hl (k := 3) rfl (nI_1 k) (by decide) rfl (fun ls hl => ?_)
          refine lv_goto (tgt := 4) hx hb dX5_banishments_37 (by decide) ?_
          exact ih4 (k + 1) (by omega) _ (by simp [qBS, bI, c9, c24]) _ (rfl) ls (lv_sub hl [2, 3, 1, 0] rfl)
  exact lp4 (nS) 0 (by omega) _ (rfl) _ (rfl) ls (lv_sub hl [2, 3, 1, 0] rfl)
set_option maxHeartbeats 4000000 in
set_option maxRecDepth 100000 in
theorem m_X5_tire (l : Launch) (G : oG) (Z : oZ) {o : Nat} (ho : o < 2) (hI : wl_I G.2.1 39) (τ : oT) (nS : Nat) (nO : Nat) (nH : Nat) (hz : qOK τ nS nO nH) (r : Nat) (ar : Int32) (er : ar = nI r) (hr6 : r < 6) (u : Nat) (au : Int32) (eu : au = nI u) (hu : u < 6) : Met l yX5_tire wsX5_tire ({ frames := 2, cells := 0, slots := 0, locals := 46 } : Room) (va_Pc [.ref (ms G o 0), .int ar, .int au] (PW G (mtw G Z o τ))) (oQ none (fun H9 => va_P G.1 vwCl (mtw G Z o (qTire τ nO r u)) H9) (mA G)) 0 0 (mA G) := by
  subst er
  subst eu
  refine o_body (cc := cX5_tire) (by decide +kernel) rfl (Nat.le_of_ble_eq_true rfl) ?_
  intro p e s m below meth c ls hx hb hml hr hlocks hown hts hP hK hN hl
  have hown : s.vm.findClass RX5 = some m.cls := hown
  have hl : lv_has ls 5 [(0, .ref (ms G o 0)), (1, .int (nI r)), (2, .int (nI u))] := hl
  have hS : va_S (mA G) s.heap s.heap [] := va_S.rf
  obtain ⟨hz1, hz2, hz3, hz4, hz5, hz6, hz7, hz8⟩ := id hz
  refine lv_iconst (v := 0) hx hb dX5_tire_0 (by decide) ?_
  refine lv_istore_n (lv' := [(3, .int 0), (0, .ref (ms G o 0)), (1, .int (nI r)), (2, .int (nI u))]) hx hb dX5_tire_1 rfl hl (by decide) rfl (fun ls hl => ?_)
  refine lv_iconst (v := 0) hx hb dX5_tire_2 (by decide) ?_
  refine lv_istore (lv' := [(4, .int 0), (3, .int 0), (0, .ref (ms G o 0)), (1, .int (nI r)), (2, .int (nI u))]) hx hb dX5_tire_3 hl (by decide) rfl (fun ls hl => ?_)
  have lp5 : ∀ (d5 k : Nat), k + d5 = nO → ∀ x5_3 : Int32, x5_3 = (bI (qPl τ (nI r) (nI u) k)) → ∀ x5_4 : Int32, x5_4 = (nI k) → ∀ ls : Array Slot, lv_has ls 5 [(0, .ref (ms G o 0)), (1, .int (nI r)), (2, .int (nI u)), (3, .int x5_3), (4, .int x5_4)] → W p l e ({ frames := 2, cells := 0, slots := 0, locals := 46 } : Room) s m ([.ref (ms G o 0), .int (nI r), .int (nI u)] : List Value).toArray below meth c s.heap [] 0 0 (MQ below (oQ none (fun H9 => va_P G.1 vwCl (mtw G Z o (qTire τ nO r u)) H9) (mA G)) ([.ref (ms G o 0), .int (nI r), .int (nI u)] : List Value).toArray s 0 0 (mA G)) (F0 m 5 ls []) := by
    intro d5
    induction d5 with
    | zero =>
      intro k hk5 x5_3 e5_3 x5_4 e5_4 ls hl
      subst e5_3
      subst e5_4
      have hk5 : k = nO := by omega
      refine lv_iload hx hb dX5_tire_5 (lv_at hl 4 rfl) ?_
      refine lv_aload_n hx hb dX5_tire_7 rfl (lv_at hl 0 rfl) ?_
      refine va_get (D := G.1) (ci := 7) (v := .int (τ 40 0 2)) (C := RX5) (T := TX5) (N := 21) hx hb hts (fun w9 h9 => List.mem_cons_of_mem _ (List.mem_append_right _ (h9))) hown hK hP (3 + 18 * o + (0)) (mt_S G Z ho τ) rfl 7 (by decide) (hts (.fieldLink RX5 81 "OrganCensusModel$State" "organs" "I") (List.mem_of_getElem? (i := 1) rfl)) (fun _ h9 => h9) rfl dX5_tire_8 ?_
      refine lv_icmp_ge (tgt := 59) hx hb dX5_tire_11 (by decide) (fun c11 => ?_) (fun c11 => ?_)
      · have n11 := (o_nle (a := nO) (b := k) hz.2.2.1 rfl (by omega) (by omega)).mp c11
        refine lv_bipush (v := 6) hx hb dX5_tire_59 (by decide) ?_
        refine lv_iload_n hx hb dX5_tire_61 rfl (lv_at hl 1 rfl) ?_
        refine lv_imul hx hb dX5_tire_62 ?_
        refine lv_iload_n hx hb dX5_tire_63 rfl (lv_at hl 2 rfl) ?_
        refine lv_iadd hx hb dX5_tire_64 ?_
        refine lv_istore (lv' := [(4, .int ((6 * (nI r)) + (nI u))), (0, .ref (ms G o 0)), (1, .int (nI r)), (2, .int (nI u)), (3, .int (bI (qPl τ (nI r) (nI u) k)))]) hx hb dX5_tire_65 hl (by decide) rfl (fun ls hl => ?_)
        refine lv_aload_n hx hb dX5_tire_67 rfl (lv_at hl 1 rfl) ?_
        refine va_get (D := G.1) (ci := 7) (v := .ref (ms G o 3)) (C := RX5) (T := TX5) (N := 21) hx hb hts (fun w9 h9 => List.mem_cons_of_mem _ (List.mem_append_right _ (h9))) hown hK hP (3 + 18 * o + (0)) (mt_S G Z ho τ) rfl 4 (by decide) (hts (.fieldLink RX5 22 "OrganCensusModel$State" "weary" "[I") (List.mem_of_getElem? (i := 4) rfl)) (fun _ h9 => h9) rfl dX5_tire_68 ?_
        refine lv_iload hx hb dX5_tire_71 (lv_at hl 0 rfl) ?_
        refine lv_iload_n hx hb dX5_tire_73 rfl (lv_at hl 4 rfl) ?_
        have jn107 : ∀ v107_0 : Int32, v107_0 = (if qPl τ (nI r) (nI u) k = true then o_min 9 (τ 3 0 (6 * r + u) + 2) else o_max 0 (τ 3 0 (6 * r + u) - 1)) → ∀ ls : Array Slot, lv_has ls 5 [(0, .ref (ms G o 0)), (1, .int (nI r)), (2, .int (nI u)), (3, .int (bI (qPl τ (nI r) (nI u) k))), (4, .int ((6 * (nI r)) + (nI u)))] → W p l e ({ frames := 2, cells := 0, slots := 0, locals := 46 } : Room) s m ([.ref (ms G o 0), .int (nI r), .int (nI u)] : List Value).toArray below meth c s.heap [] 0 0 (MQ below (oQ none (fun H9 => va_P G.1 vwCl (mtw G Z o (qTire τ nO r u)) H9) (mA G)) ([.ref (ms G o 0), .int (nI r), .int (nI u)] : List Value).toArray s 0 0 (mA G)) (F0 m 107 ls [.int v107_0, .int ((6 * (nI r)) + (nI u)), .ref (ms G o 3)]) := by
          intro v107_0 ev107_0 ls hl
          subst ev107_0
          refine o_iast (k := (6 * r) + u) hx hb hK hP (mt_D G Z o _ hI) hS (3 + 18 * o + (3)) 0 (mt_A3 G Z ho τ) rfl (o_nadd (o_nmul (by decide) rfl) rfl) (by omega) (by decide) dX5_tire_107 (fun H locs hP hD hS => ?_)
          have hP : va_P G.1 vwCl (mtw G Z o (su τ 3 0 ((6 * r) + u) (if qPl τ (nI r) (nI u) k = true then o_min 9 (τ 3 0 (6 * r + u) + 2) else o_max 0 (τ 3 0 (6 * r + u) - 1)))) H := by rw [← mt_uA3 G Z ho τ ((6 * r) + u) (if qPl τ (nI r) (nI u) k = true then o_min 9 (τ 3 0 (6 * r + u) + 2) else o_max 0 (τ 3 0 (6 * r + u) - 1))]; exact hP
          clear hD
          exact o_vretM hx hb hr hlocks hS dX5_tire_108 (by subst hk5; exact hP)
        refine lv_if_eq (tgt := 94) hx hb dX5_tire_74 (by decide) (fun c74 => ?_) (fun c74 => ?_)
        · have c74 := bI_eq.mp c74
          refine lv_iconst (v := 0) hx hb dX5_tire_94 (by decide) ?_
          refine lv_aload_n hx hb dX5_tire_95 rfl (lv_at hl 1 rfl) ?_
          refine va_get (D := G.1) (ci := 7) (v := .ref (ms G o 3)) (C := RX5) (T := TX5) (N := 21) hx hb hts (fun w9 h9 => List.mem_cons_of_mem _ (List.mem_append_right _ (h9))) hown hK hP (3 + 18 * o + (0)) (mt_S G Z ho τ) rfl 4 (by decide) (hts (.fieldLink RX5 22 "OrganCensusModel$State" "weary" "[I") (List.mem_of_getElem? (i := 4) rfl)) (fun _ h9 => h9) rfl dX5_tire_96 ?_
          refine lv_iload hx hb dX5_tire_99 (lv_at hl 0 rfl) ?_
          refine o_iald (k := (6 * r) + u) hx hb hK hP (3 + 18 * o + (3)) 0 (mt_A3 G Z ho τ) rfl (o_nadd (o_nmul (by decide) rfl) rfl) (by omega) (by decide) dX5_tire_101 ?_
          refine lv_iconst (v := 1) hx hb dX5_tire_102 (by decide) ?_
          refine lv_isub hx hb dX5_tire_103 ?_
          refine va_mmax (rest := [.int ((6 * (nI r)) + (nI u)), .ref (ms G o 3)]) hx hb (hml.trans hl.1.symm) hown (hts (.methodLink RX5 97 Lib.Math.max.name) (List.mem_of_getElem? (i := 9) rfl)) (hts (.static Lib.Math.max.name) (List.mem_of_getElem? (i := 10) rfl)) (hts (.initialized "java/lang/Math") (List.mem_of_getElem? (i := 7) rfl)) (hts (.code Lib.Math.max.name Lib.Math.max.code 2 (some .int)) (List.mem_of_getElem? (i := 11) rfl)) (Nat.le_of_ble_eq_true rfl) (Nat.le_of_ble_eq_true rfl) (Nat.zero_le _) (Nat.zero_le _) dX5_tire_104 ?_
          change W _ _ _ _ _ _ _ _ _ _ _ _ _ _ _ (F0 m 107 ls (.int (o_max 0 ((τ 3 0 ((6 * r) + u)) - 1)) :: _))
          exact jn107 _ (by simp [c11, c74]) ls (lv_sub hl [1, 2, 3, 4, 0] rfl)
        · have c74 := bI_ne.mp c74
          refine lv_bipush (v := 9) hx hb dX5_tire_77 (by decide) ?_
          refine lv_aload_n hx hb dX5_tire_79 rfl (lv_at hl 1 rfl) ?_
          refine va_get (D := G.1) (ci := 7) (v := .ref (ms G o 3)) (C := RX5) (T := TX5) (N := 21) hx hb hts (fun w9 h9 => List.mem_cons_of_mem _ (List.mem_append_right _ (h9))) hown hK hP (3 + 18 * o + (0)) (mt_S G Z ho τ) rfl 4 (by decide) (hts (.fieldLink RX5 22 "OrganCensusModel$State" "weary" "[I") (List.mem_of_getElem? (i := 4) rfl)) (fun _ h9 => h9) rfl dX5_tire_80 ?_
          refine lv_iload hx hb dX5_tire_83 (lv_at hl 0 rfl) ?_
          refine o_iald (k := (6 * r) + u) hx hb hK hP (3 + 18 * o + (3)) 0 (mt_A3 G Z ho τ) rfl (o_nadd (o_nmul (by decide) rfl) rfl) (by omega) (by decide) dX5_tire_85 ?_
          refine lv_iconst (v := 2) hx hb dX5_tire_86 (by decide) ?_
          refine lv_iadd hx hb dX5_tire_87 ?_
          refine va_mmin (rest := [.int ((6 * (nI r)) + (nI u)), .ref (ms G o 3)]) hx hb (hml.trans hl.1.symm) hown (hts (.methodLink RX5 125 Lib.Math.min.name) (List.mem_of_getElem? (i := 5) rfl)) (hts (.static Lib.Math.min.name) (List.mem_of_getElem? (i := 6) rfl)) (hts (.initialized "java/lang/Math") (List.mem_of_getElem? (i := 7) rfl)) (hts (.code Lib.Math.min.name Lib.Math.min.code 2 (some .int)) (List.mem_of_getElem? (i := 8) rfl)) (Nat.le_of_ble_eq_true rfl) (Nat.le_of_ble_eq_true rfl) (Nat.zero_le _) (Nat.zero_le _) dX5_tire_88 ?_
          change W _ _ _ _ _ _ _ _ _ _ _ _ _ _ _ (F0 m 91 ls (.int (o_min 9 ((τ 3 0 ((6 * r) + u)) + 2)) :: _))
          refine lv_goto (tgt := 107) hx hb dX5_tire_91 (by decide) ?_
          exact jn107 _ (by simp [c11, c74]) ls (lv_sub hl [1, 2, 3, 4, 0] rfl)
      · have n11 := (mt (o_nle (a := nO) (b := k) hz.2.2.1 rfl (by omega) (by omega)).mpr) c11; omega
    | succ d5 ih5 =>
      intro k hk5 x5_3 e5_3 x5_4 e5_4 ls hl
      subst e5_3
      subst e5_4
      have hj5 : k < nO := by omega
      refine lv_iload hx hb dX5_tire_5 (lv_at hl 4 rfl) ?_
      refine lv_aload_n hx hb dX5_tire_7 rfl (lv_at hl 0 rfl) ?_
      refine va_get (D := G.1) (ci := 7) (v := .int (τ 40 0 2)) (C := RX5) (T := TX5) (N := 21) hx hb hts (fun w9 h9 => List.mem_cons_of_mem _ (List.mem_append_right _ (h9))) hown hK hP (3 + 18 * o + (0)) (mt_S G Z ho τ) rfl 7 (by decide) (hts (.fieldLink RX5 81 "OrganCensusModel$State" "organs" "I") (List.mem_of_getElem? (i := 1) rfl)) (fun _ h9 => h9) rfl dX5_tire_8 ?_
      refine lv_icmp_ge (tgt := 59) hx hb dX5_tire_11 (by decide) (fun c11 => ?_) (fun c11 => ?_)
      · have n11 := (o_nle (a := nO) (b := k) hz.2.2.1 rfl (by omega) (by omega)).mp c11; omega
      · have n11 := (mt (o_nle (a := nO) (b := k) hz.2.2.1 rfl (by omega) (by omega)).mpr) c11
        refine lv_iload_n hx hb dX5_tire_14 rfl (lv_at hl 3 rfl) ?_
        refine lv_aload_n hx hb dX5_tire_15 rfl (lv_at hl 0 rfl) ?_
        refine va_get (D := G.1) (ci := 7) (v := .ref (ms G o 6)) (C := RX5) (T := TX5) (N := 21) hx hb hts (fun w9 h9 => List.mem_cons_of_mem _ (List.mem_append_right _ (h9))) hown hK hP (3 + 18 * o + (0)) (mt_S G Z ho τ) rfl 8 (by decide) (hts (.fieldLink RX5 31 "OrganCensusModel$State" "at" "[I") (List.mem_of_getElem? (i := 2) rfl)) (fun _ h9 => h9) rfl dX5_tire_16 ?_
        refine lv_iload hx hb dX5_tire_19 (lv_at hl 4 rfl) ?_
        refine o_iald (k := k) hx hb hK hP (3 + 18 * o + (6)) 0 (mt_A6 G Z ho τ) rfl rfl (by omega) (by decide) dX5_tire_21 ?_
        refine lv_iload_n hx hb dX5_tire_22 rfl (lv_at hl 1 rfl) ?_
        refine lv_icmp_ne (tgt := 50) hx hb dX5_tire_23 (by decide) (fun c23 => ?_) (fun c23 => ?_)
        · refine lv_iconst (v := 0) hx hb dX5_tire_50 (by decide) ?_
          refine lv_ior hx hb dX5_tire_51 ?_
          refine lv_istore_n (lv' := [(3, .int ((bI (qPl τ (nI r) (nI u) k)) ||| 0)), (0, .ref (ms G o 0)), (1, .int (nI r)), (2, .int (nI u)), (4, .int (nI k))]) hx hb dX5_tire_52 rfl hl (by decide) rfl (fun ls hl => ?_)
          refine lv_iinc (v := nI (k + 1)) (lv' := [(4, .int (nI (k + 1))), (3, .int ((bI (qPl τ (nI r) (nI u) k)) ||| 0)), (0, .ref (ms G o 0)), (1, .int (nI r)), (2, .int (nI u))]) hx hb dX5_tire_53 hl (k := 4) rfl (nI_1 k) (by decide) rfl (fun ls hl => ?_)
          refine lv_goto (tgt := 5) hx hb dX5_tire_56 (by decide) ?_
          exact ih5 (k + 1) (by omega) _ (by simp [qPl, qStd, bI_or, c11, c23, bI_or0, bI_or1, bI_t, bI_f]) _ (rfl) ls (lv_sub hl [2, 3, 4, 1, 0] rfl)
        · refine lv_aload_n hx hb dX5_tire_26 rfl (lv_at hl 0 rfl) ?_
          refine va_get (D := G.1) (ci := 7) (v := .ref (ms G o 8)) (C := RX5) (T := TX5) (N := 21) hx hb hts (fun w9 h9 => List.mem_cons_of_mem _ (List.mem_append_right _ (h9))) hown hK hP (3 + 18 * o + (0)) (mt_S G Z ho τ) rfl 10 (by decide) (hts (.fieldLink RX5 37 "OrganCensusModel$State" "left" "[I") (List.mem_of_getElem? (i := 3) rfl)) (fun _ h9 => h9) rfl dX5_tire_27 ?_
          refine lv_iload hx hb dX5_tire_30 (lv_at hl 4 rfl) ?_
          refine o_iald (k := k) hx hb hK hP (3 + 18 * o + (8)) 0 (mt_A8 G Z ho τ) rfl rfl (by omega) (by decide) dX5_tire_32 ?_
          refine lv_if_ne (tgt := 50) hx hb dX5_tire_33 (by decide) (fun c33 => ?_) (fun c33 => ?_)
          · refine lv_iconst (v := 0) hx hb dX5_tire_50 (by decide) ?_
            refine lv_ior hx hb dX5_tire_51 ?_
            refine lv_istore_n (lv' := [(3, .int ((bI (qPl τ (nI r) (nI u) k)) ||| 0)), (0, .ref (ms G o 0)), (1, .int (nI r)), (2, .int (nI u)), (4, .int (nI k))]) hx hb dX5_tire_52 rfl hl (by decide) rfl (fun ls hl => ?_)
            refine lv_iinc (v := nI (k + 1)) (lv' := [(4, .int (nI (k + 1))), (3, .int ((bI (qPl τ (nI r) (nI u) k)) ||| 0)), (0, .ref (ms G o 0)), (1, .int (nI r)), (2, .int (nI u))]) hx hb dX5_tire_53 hl (k := 4) rfl (nI_1 k) (by decide) rfl (fun ls hl => ?_)
            refine lv_goto (tgt := 5) hx hb dX5_tire_56 (by decide) ?_
            exact ih5 (k + 1) (by omega) _ (by simp [qPl, qStd, bI_or, c11, c23, c33, bI_or0, bI_or1, bI_t, bI_f]) _ (rfl) ls (lv_sub hl [2, 3, 4, 1, 0] rfl)
          · refine lv_aload_n hx hb dX5_tire_36 rfl (lv_at hl 0 rfl) ?_
            refine lv_iload hx hb dX5_tire_37 (lv_at hl 4 rfl) ?_
            refine o_cVi (q0 := 3 + 18 * o + (0)) (ci := 7) [.int (nI k)] [.int (bI (qPl τ (nI r) (nI u) k))] ⟨hx, hb, hml, hown, hts⟩ (m_X5_tune l G Z ho τ nS nO nH hz k (nI k) (rfl) (by omega)) (cwV 1 hts gX5_tire_X5_tune rfl rfl rfl (by decide +kernel) ⟨Nat.le_of_ble_eq_true rfl, Nat.le_of_ble_eq_true rfl⟩) hK hN hP rfl rfl (mt_S G Z ho τ) rfl hl.1 rfl (Nat.le_of_ble_eq_true rfl) dX5_tire_39 ⟨Nat.zero_le _, Nat.zero_le _⟩ ?_
            have htu := (oTu_lt (hz8 k (by omega)).2.1 (hz8 k (by omega)).2.2.2).1
            change qTu τ k < 6 at htu
            refine lv_iload_n hx hb dX5_tire_42 rfl (lv_at hl 2 rfl) ?_
            refine lv_icmp_ne (tgt := 50) hx hb dX5_tire_43 (by decide) (fun c43 => ?_) (fun c43 => ?_)
            · have n43 := (mt (o_neq (a := qTu τ k) (b := u) rfl rfl (by omega) (by omega)).mpr) c43
              refine lv_iconst (v := 0) hx hb dX5_tire_50 (by decide) ?_
              refine lv_ior hx hb dX5_tire_51 ?_
              refine lv_istore_n (lv' := [(3, .int ((bI (qPl τ (nI r) (nI u) k)) ||| 0)), (0, .ref (ms G o 0)), (1, .int (nI r)), (2, .int (nI u)), (4, .int (nI k))]) hx hb dX5_tire_52 rfl hl (by decide) rfl (fun ls hl => ?_)
              refine lv_iinc (v := nI (k + 1)) (lv' := [(4, .int (nI (k + 1))), (3, .int ((bI (qPl τ (nI r) (nI u) k)) ||| 0)), (0, .ref (ms G o 0)), (1, .int (nI r)), (2, .int (nI u))]) hx hb dX5_tire_53 hl (k := 4) rfl (nI_1 k) (by decide) rfl (fun ls hl => ?_)
              refine lv_goto (tgt := 5) hx hb dX5_tire_56 (by decide) ?_
              exact ih5 (k + 1) (by omega) _ (by simp [qPl, qStd, bI_or, c11, c23, c33, c43, bI_or0, bI_or1, bI_t, bI_f]) _ (rfl) ls (lv_sub hl [2, 3, 4, 1, 0] rfl)
            · have n43 := (o_neq (a := qTu τ k) (b := u) rfl rfl (by omega) (by omega)).mp c43
              refine lv_iconst (v := 1) hx hb dX5_tire_46 (by decide) ?_
              refine lv_goto (tgt := 51) hx hb dX5_tire_47 (by decide) ?_
              refine lv_ior hx hb dX5_tire_51 ?_
              refine lv_istore_n (lv' := [(3, .int ((bI (qPl τ (nI r) (nI u) k)) ||| 1)), (0, .ref (ms G o 0)), (1, .int (nI r)), (2, .int (nI u)), (4, .int (nI k))]) hx hb dX5_tire_52 rfl hl (by decide) rfl (fun ls hl => ?_)
              refine lv_iinc (v := nI (k + 1)) (lv' := [(4, .int (nI (k + 1))), (3, .int ((bI (qPl τ (nI r) (nI u) k)) ||| 1)), (0, .ref (ms G o 0)), (1, .int (nI r)), (2, .int (nI u))]) hx hb dX5_tire_53 hl (k := 4) rfl (nI_1 k) (by decide) rfl (fun ls hl => ?_)
              refine lv_goto (tgt := 5) hx hb dX5_tire_56 (by decide) ?_
              exact ih5 (k + 1) (by omega) _ (by simp [qPl, qStd, bI_or, c11, c23, c33, c43, bI_or0, bI_or1, bI_t, bI_f]) _ (rfl) ls (lv_sub hl [2, 3, 4, 1, 0] rfl)
  exact lp5 (nO) 0 (by omega) _ (rfl) _ (rfl) ls (lv_sub hl [2, 3, 4, 1, 0] rfl)
set_option maxHeartbeats 4000000 in
set_option maxRecDepth 100000 in
theorem m_X5_listen (l : Launch) (G : oG) (Z : oZ) {o : Nat} (ho : o < 2) (hI : wl_I G.2.1 39) (τ : oT) (nS : Nat) (nO : Nat) (nH : Nat) (hz : qOK τ nS nO nH) (r : Nat) (ar : Int32) (er : ar = nI r) (hr6 : r < 6) (y : Int32) : Met l yX5_listen wsX5_listen ({ frames := 4, cells := 0, slots := 0, locals := 95 } : Room) (va_Pc [.ref (ms G o 0), .int ar, .int y] (PW G (mtw G Z o τ))) (oQ none (fun H9 => va_P G.1 vwCl (mtw G Z o (qListen τ (Z 2 42 0) nO r nH y)) H9) (mA G)) 0 0 (mA G) := by
  subst er
  refine o_body (cc := cX5_listen) (by decide +kernel) rfl (Nat.le_of_ble_eq_true rfl) ?_
  intro p e s m below meth c ls hx hb hml hr hlocks hown hts hP hK hN hl
  have hown : s.vm.findClass RX5 = some m.cls := hown
  have hl : lv_has ls 7 [(0, .ref (ms G o 0)), (1, .int (nI r)), (2, .int y)] := hl
  have hS : va_S (mA G) s.heap s.heap [] := va_S.rf
  obtain ⟨hz1, hz2, hz3, hz4, hz5, hz6, hz7, hz8⟩ := id hz
  refine lv_aload_n hx hb dX5_listen_0 rfl (lv_at hl 0 rfl) ?_
  refine lv_iload_n hx hb dX5_listen_1 rfl (lv_at hl 1 rfl) ?_
  refine lv_iload_n hx hb dX5_listen_2 rfl (lv_at hl 2 rfl) ?_
  refine o_cVi (q0 := 3 + 18 * o + (0)) (ci := 7) [.int (nI r), .int y] [] ⟨hx, hb, hml, hown, hts⟩ (m_X5_heard l G Z ho τ nS nO nH hz (nI r) y) (cwV 2 hts gX5_listen_X5_heard rfl rfl rfl (by decide +kernel) ⟨Nat.le_of_ble_eq_true rfl, Nat.le_of_ble_eq_true rfl⟩) hK hN hP rfl rfl (mt_S G Z ho τ) rfl hl.1 rfl (Nat.le_of_ble_eq_true rfl) dX5_listen_3 ⟨Nat.zero_le _, Nat.zero_le _⟩ ?_
  refine lv_istore_n (lv' := [(3, .int (qHeard τ nO (nI r) y)), (0, .ref (ms G o 0)), (1, .int (nI r)), (2, .int y)]) hx hb dX5_listen_6 rfl hl (by decide) rfl (fun ls hl => ?_)
  have jn115 : ∀ (τ115 : oT), τ115 = (qL1 τ (Z 2 42 0) nO r nH y) → ∀ (H : Heap) (locs : List Loc), va_P G.1 vwCl (mtw G Z o τ115) H → va_S (mA G) s.heap H locs → ∀ ls : Array Slot, lv_has ls 7 [(0, .ref (ms G o 0)), (1, .int (nI r)), (2, .int y), (3, .int (qHeard τ nO (nI r) y))] → W p l e ({ frames := 4, cells := 0, slots := 0, locals := 95 } : Room) s m ([.ref (ms G o 0), .int (nI r), .int y] : List Value).toArray below meth c H locs 0 0 (MQ below (oQ none (fun H9 => va_P G.1 vwCl (mtw G Z o (qListen τ (Z 2 42 0) nO r nH y)) H9) (mA G)) ([.ref (ms G o 0), .int (nI r), .int y] : List Value).toArray s 0 0 (mA G)) (F0 m 115 ls []) := by
    intro  τ115 eτ115 H locs hP hS ls hl
    subst eτ115
    have hz115 : qOK (qL1 τ (Z 2 42 0) nO r nH y) nS nO nH := hz.of (qL1_kp _ _ _ _ _ _)
    refine lv_aload_n hx hb dX5_listen_115 rfl (lv_at hl 0 rfl) ?_
    refine lv_iload_n hx hb dX5_listen_116 rfl (lv_at hl 1 rfl) ?_
    refine lv_iload_n hx hb dX5_listen_117 rfl (lv_at hl 2 rfl) ?_
    refine o_cVi (q0 := 3 + 18 * o + (0)) (ci := 7) [.int (nI r), .int y] [] ⟨hx, hb, hml, hown, hts⟩ (m_X5_loudest l G Z ho (qL1 τ (Z 2 42 0) nO r nH y) nS nO nH hz115 (nI r) y) (cwV 2 hts gX5_listen_X5_loudest rfl rfl rfl (by decide +kernel) ⟨Nat.le_of_ble_eq_true rfl, Nat.le_of_ble_eq_true rfl⟩) hK hN hP rfl rfl (mt_S G Z ho (qL1 τ (Z 2 42 0) nO r nH y)) rfl hl.1 rfl (Nat.le_of_ble_eq_true rfl) dX5_listen_118 ⟨Nat.zero_le _, Nat.zero_le _⟩ ?_
    refine lv_istore (lv' := [(4, .int (qLd (qL1 τ (Z 2 42 0) nO r nH y) (nI r) y nO)), (0, .ref (ms G o 0)), (1, .int (nI r)), (2, .int y), (3, .int (qHeard τ nO (nI r) y))]) hx hb dX5_listen_121 hl (by decide) rfl (fun ls hl => ?_)
    refine lv_iconst (v := 0) hx hb dX5_listen_123 (by decide) ?_
    refine lv_istore (lv' := [(5, .int 0), (4, .int (qLd (qL1 τ (Z 2 42 0) nO r nH y) (nI r) y nO)), (0, .ref (ms G o 0)), (1, .int (nI r)), (2, .int y), (3, .int (qHeard τ nO (nI r) y))]) hx hb dX5_listen_124 hl (by decide) rfl (fun ls hl => ?_)
    have lp126 : ∀ (d126 k : Nat), k + d126 = nO → ∀ x126_5 : Int32, x126_5 = (nI k) → ∀ (τ126 : oT), τ126 = (qL2 (qL1 τ (Z 2 42 0) nO r nH y) r y (qHeard τ nO (nI r) y) (qLd (qL1 τ (Z 2 42 0) nO r nH y) (nI r) y nO) k) → ∀ (H : Heap) (locs : List Loc), va_P G.1 vwCl (mtw G Z o τ126) H → va_S (mA G) s.heap H locs → ∀ ls : Array Slot, lv_has ls 7 [(0, .ref (ms G o 0)), (1, .int (nI r)), (2, .int y), (3, .int (qHeard τ nO (nI r) y)), (4, .int (qLd (qL1 τ (Z 2 42 0) nO r nH y) (nI r) y nO)), (5, .int x126_5)] → W p l e ({ frames := 4, cells := 0, slots := 0, locals := 95 } : Room) s m ([.ref (ms G o 0), .int (nI r), .int y] : List Value).toArray below meth c H locs 0 0 (MQ below (oQ none (fun H9 => va_P G.1 vwCl (mtw G Z o (qListen τ (Z 2 42 0) nO r nH y)) H9) (mA G)) ([.ref (ms G o 0), .int (nI r), .int y] : List Value).toArray s 0 0 (mA G)) (F0 m 126 ls []) := by
      intro d126
      induction d126 with
      | zero =>
        intro k hk126 x126_5 e126_5 τ126 eτ126 H locs hP hS ls hl
        subst e126_5
        subst eτ126
        have hz126 : qOK (qL2 (qL1 τ (Z 2 42 0) nO r nH y) r y (qHeard τ nO (nI r) y) (qLd (qL1 τ (Z 2 42 0) nO r nH y) (nI r) y nO) k) nS nO nH := (hz.of (qL1_kp _ _ _ _ _ _)).of (qL2_kp _ _ _ _ _ _)
        have hk126 : k = nO := by omega
        refine lv_iload hx hb dX5_listen_126 (lv_at hl 5 rfl) ?_
        refine lv_aload_n hx hb dX5_listen_128 rfl (lv_at hl 0 rfl) ?_
        refine va_get (D := G.1) (ci := 7) (v := .int ((qL2 (qL1 τ (Z 2 42 0) nO r nH y) r y (qHeard τ nO (nI r) y) (qLd (qL1 τ (Z 2 42 0) nO r nH y) (nI r) y nO) k) 40 0 2)) (C := RX5) (T := TX5) (N := 21) hx hb hts (fun w9 h9 => List.mem_cons_of_mem _ (List.mem_append_left _ (List.mem_append_right _ (h9)))) hown hK hP (3 + 18 * o + (0)) (mt_S G Z ho (qL2 (qL1 τ (Z 2 42 0) nO r nH y) r y (qHeard τ nO (nI r) y) (qLd (qL1 τ (Z 2 42 0) nO r nH y) (nI r) y nO) k)) rfl 7 (by decide) (hts (.fieldLink RX5 81 "OrganCensusModel$State" "organs" "I") (List.mem_of_getElem? (i := 12) rfl)) (fun _ h9 => h9) rfl dX5_listen_129 ?_
        refine lv_icmp_ge (tgt := 189) hx hb dX5_listen_132 (by decide) (fun c132 => ?_) (fun c132 => ?_)
        · have n132 := (o_nle (a := nO) (b := k) hz126.2.2.1 rfl (by omega) (by omega)).mp c132
          exact o_vretM hx hb hr hlocks hS dX5_listen_189 (by first | (subst hk126; exact hP) | (rw [qL2_ne c138] at hP; rw [qListen, qL2_ne c138]; exact hP))
        · have n132 := (mt (o_nle (a := nO) (b := k) hz126.2.2.1 rfl (by omega) (by omega)).mpr) c132; omega
      | succ d126 ih126 =>
        intro k hk126 x126_5 e126_5 τ126 eτ126 H locs hP hS ls hl
        subst e126_5
        subst eτ126
        have hz126 : qOK (qL2 (qL1 τ (Z 2 42 0) nO r nH y) r y (qHeard τ nO (nI r) y) (qLd (qL1 τ (Z 2 42 0) nO r nH y) (nI r) y nO) k) nS nO nH := (hz.of (qL1_kp _ _ _ _ _ _)).of (qL2_kp _ _ _ _ _ _)
        have hj126 : k < nO := by omega
        refine lv_iload hx hb dX5_listen_126 (lv_at hl 5 rfl) ?_
        refine lv_aload_n hx hb dX5_listen_128 rfl (lv_at hl 0 rfl) ?_
        refine va_get (D := G.1) (ci := 7) (v := .int ((qL2 (qL1 τ (Z 2 42 0) nO r nH y) r y (qHeard τ nO (nI r) y) (qLd (qL1 τ (Z 2 42 0) nO r nH y) (nI r) y nO) k) 40 0 2)) (C := RX5) (T := TX5) (N := 21) hx hb hts (fun w9 h9 => List.mem_cons_of_mem _ (List.mem_append_left _ (List.mem_append_right _ (h9)))) hown hK hP (3 + 18 * o + (0)) (mt_S G Z ho (qL2 (qL1 τ (Z 2 42 0) nO r nH y) r y (qHeard τ nO (nI r) y) (qLd (qL1 τ (Z 2 42 0) nO r nH y) (nI r) y nO) k)) rfl 7 (by decide) (hts (.fieldLink RX5 81 "OrganCensusModel$State" "organs" "I") (List.mem_of_getElem? (i := 12) rfl)) (fun _ h9 => h9) rfl dX5_listen_129 ?_
        refine lv_icmp_ge (tgt := 189) hx hb dX5_listen_132 (by decide) (fun c132 => ?_) (fun c132 => ?_)
        · have n132 := (o_nle (a := nO) (b := k) hz126.2.2.1 rfl (by omega) (by omega)).mp c132; omega
        · have n132 := (mt (o_nle (a := nO) (b := k) hz126.2.2.1 rfl (by omega) (by omega)).mpr) c132
          refine lv_iload_n hx hb dX5_listen_135 rfl (lv_at hl 3 rfl) ?_
          refine lv_bipush (v := (-2)) hx hb dX5_listen_136 (by decide) ?_
          refine lv_icmp_ne (tgt := 189) hx hb dX5_listen_138 (by decide) (fun c138 => ?_) (fun c138 => ?_)
          · exact o_vretM hx hb hr hlocks hS dX5_listen_189 (by first | (subst hk126; exact hP) | (rw [qL2_ne c138] at hP; rw [qListen, qL2_ne c138]; exact hP))
          · refine lv_aload_n hx hb dX5_listen_141 rfl (lv_at hl 0 rfl) ?_
            refine lv_iload hx hb dX5_listen_142 (lv_at hl 5 rfl) ?_
            refine lv_iload_n hx hb dX5_listen_144 rfl (lv_at hl 1 rfl) ?_
            refine lv_iload_n hx hb dX5_listen_145 rfl (lv_at hl 2 rfl) ?_
            refine o_cVi (q0 := 3 + 18 * o + (0)) (ci := 7) [.int (nI k), .int (nI r), .int y] [] ⟨hx, hb, hml, hown, hts⟩ (m_X5_sound l G Z ho (qL2 (qL1 τ (Z 2 42 0) nO r nH y) r y (qHeard τ nO (nI r) y) (qLd (qL1 τ (Z 2 42 0) nO r nH y) (nI r) y nO) k) nS nO nH hz126 k (nI k) (rfl) (by omega) (nI r) y) (cwV 3 hts gX5_listen_X5_sound rfl rfl rfl (by decide +kernel) ⟨Nat.le_of_ble_eq_true rfl, Nat.le_of_ble_eq_true rfl⟩) hK hN hP rfl rfl (mt_S G Z ho (qL2 (qL1 τ (Z 2 42 0) nO r nH y) r y (qHeard τ nO (nI r) y) (qLd (qL1 τ (Z 2 42 0) nO r nH y) (nI r) y nO) k)) rfl hl.1 rfl (Nat.le_of_ble_eq_true rfl) dX5_listen_146 ⟨Nat.zero_le _, Nat.zero_le _⟩ ?_
            refine lv_if_le (tgt := 183) hx hb dX5_listen_149 (by decide) (fun c149 => ?_) (fun c149 => ?_)
            · refine lv_iinc (v := nI (k + 1)) (lv' := [(5, .int (nI (k + 1))), (0, .ref (ms G o 0)), (1, .int (nI r)), (2, .int y), (3, .int (qHeard τ nO (nI r) y)), (4, .int (qLd (qL1 τ (Z 2 42 0) nO r nH y) (nI r) y nO))]) hx hb dX5_listen_183 hl (k := 5) rfl (nI_1 k) (by decide) rfl (fun ls hl => ?_)
              refine lv_goto (tgt := 126) hx hb dX5_listen_186 (by decide) ?_
              exact ih126 (k + 1) (by omega) _ (rfl) _ (by simp only [qL2]; rw [if_neg (not_not_intro c138)]; first | exact (if_pos c149).symm | (rw [if_neg c149]; first | exact (if_pos c164).symm | (rw [if_neg c164]))) _ _ hP hS ls (lv_sub hl [1, 2, 3, 4, 5, 0] rfl)
            · refine lv_aload_n hx hb dX5_listen_152 rfl (lv_at hl 0 rfl) ?_
              refine lv_iload hx hb dX5_listen_153 (lv_at hl 5 rfl) ?_
              refine lv_iload_n hx hb dX5_listen_155 rfl (lv_at hl 1 rfl) ?_
              refine lv_iload_n hx hb dX5_listen_156 rfl (lv_at hl 2 rfl) ?_
              refine o_cVi (q0 := 3 + 18 * o + (0)) (ci := 7) [.int (nI k), .int (nI r), .int y] [] ⟨hx, hb, hml, hown, hts⟩ (m_X5_sound l G Z ho (qL2 (qL1 τ (Z 2 42 0) nO r nH y) r y (qHeard τ nO (nI r) y) (qLd (qL1 τ (Z 2 42 0) nO r nH y) (nI r) y nO) k) nS nO nH hz126 k (nI k) (rfl) (by omega) (nI r) y) (cwV 3 hts gX5_listen_X5_sound rfl rfl rfl (by decide +kernel) ⟨Nat.le_of_ble_eq_true rfl, Nat.le_of_ble_eq_true rfl⟩) hK hN hP rfl rfl (mt_S G Z ho (qL2 (qL1 τ (Z 2 42 0) nO r nH y) r y (qHeard τ nO (nI r) y) (qLd (qL1 τ (Z 2 42 0) nO r nH y) (nI r) y nO) k)) rfl hl.1 rfl (Nat.le_of_ble_eq_true rfl) dX5_listen_157 ⟨Nat.zero_le _, Nat.zero_le _⟩ ?_
              refine lv_iload hx hb dX5_listen_160 (lv_at hl 4 rfl) ?_
              refine lv_iconst (v := 1) hx hb dX5_listen_162 (by decide) ?_
              refine lv_isub hx hb dX5_listen_163 ?_
              refine lv_icmp_lt (tgt := 183) hx hb dX5_listen_164 (by decide) (fun c164 => ?_) (fun c164 => ?_)
              · refine lv_iinc (v := nI (k + 1)) (lv' := [(5, .int (nI (k + 1))), (0, .ref (ms G o 0)), (1, .int (nI r)), (2, .int y), (3, .int (qHeard τ nO (nI r) y)), (4, .int (qLd (qL1 τ (Z 2 42 0) nO r nH y) (nI r) y nO))]) hx hb dX5_listen_183 hl (k := 5) rfl (nI_1 k) (by decide) rfl (fun ls hl => ?_)
                refine lv_goto (tgt := 126) hx hb dX5_listen_186 (by decide) ?_
                exact ih126 (k + 1) (by omega) _ (rfl) _ (by simp only [qL2]; rw [if_neg (not_not_intro c138)]; first | exact (if_pos c149).symm | (rw [if_neg c149]; first | exact (if_pos c164).symm | (rw [if_neg c164]))) _ _ hP hS ls (lv_sub hl [1, 2, 3, 4, 5, 0] rfl)
              · refine lv_aload_n hx hb dX5_listen_167 rfl (lv_at hl 0 rfl) ?_
                refine va_get (D := G.1) (ci := 7) (v := .ref (ms G o 14)) (C := RX5) (T := TX5) (N := 21) hx hb hts (fun w9 h9 => List.mem_cons_of_mem _ (List.mem_append_left _ (List.mem_append_right _ (h9)))) hown hK hP (3 + 18 * o + (0)) (mt_S G Z ho (qL2 (qL1 τ (Z 2 42 0) nO r nH y) r y (qHeard τ nO (nI r) y) (qLd (qL1 τ (Z 2 42 0) nO r nH y) (nI r) y nO) k)) rfl 16 (by decide) (hts (.fieldLink RX5 55 "OrganCensusModel$State" "complaints" "[I") (List.mem_of_getElem? (i := 13) rfl)) (fun _ h9 => h9) rfl dX5_listen_168 ?_
                refine lv_bipush (v := 6) hx hb dX5_listen_171 (by decide) ?_
                refine lv_iload hx hb dX5_listen_173 (lv_at hl 5 rfl) ?_
                refine lv_imul hx hb dX5_listen_175 ?_
                refine lv_iload_n hx hb dX5_listen_176 rfl (lv_at hl 1 rfl) ?_
                refine lv_iadd hx hb dX5_listen_177 ?_
                refine lv_dup2_11 hx hb dX5_listen_178 rfl rfl ?_
                refine o_iald (k := (6 * k) + r) hx hb hK hP (3 + 18 * o + (14)) 0 (mt_A14 G Z ho (qL2 (qL1 τ (Z 2 42 0) nO r nH y) r y (qHeard τ nO (nI r) y) (qLd (qL1 τ (Z 2 42 0) nO r nH y) (nI r) y nO) k)) rfl (o_nadd (o_nmul (by decide) rfl) rfl) (by omega) (by decide) dX5_listen_179 ?_
                refine lv_iconst (v := 1) hx hb dX5_listen_180 (by decide) ?_
                refine lv_iadd hx hb dX5_listen_181 ?_
                refine o_iast (k := (6 * k) + r) hx hb hK hP (mt_D G Z o _ hI) hS (3 + 18 * o + (14)) 0 (mt_A14 G Z ho (qL2 (qL1 τ (Z 2 42 0) nO r nH y) r y (qHeard τ nO (nI r) y) (qLd (qL1 τ (Z 2 42 0) nO r nH y) (nI r) y nO) k)) rfl (o_nadd (o_nmul (by decide) rfl) rfl) (by omega) (by decide) dX5_listen_182 (fun H locs hP hD hS => ?_)
                have hP : va_P G.1 vwCl (mtw G Z o (su (qL2 (qL1 τ (Z 2 42 0) nO r nH y) r y (qHeard τ nO (nI r) y) (qLd (qL1 τ (Z 2 42 0) nO r nH y) (nI r) y nO) k) 14 0 ((6 * k) + r) (((qL2 (qL1 τ (Z 2 42 0) nO r nH y) r y (qHeard τ nO (nI r) y) (qLd (qL1 τ (Z 2 42 0) nO r nH y) (nI r) y nO) k) 14 0 ((6 * k) + r)) + 1))) H := by rw [← mt_uA14 G Z ho (qL2 (qL1 τ (Z 2 42 0) nO r nH y) r y (qHeard τ nO (nI r) y) (qLd (qL1 τ (Z 2 42 0) nO r nH y) (nI r) y nO) k) ((6 * k) + r) (((qL2 (qL1 τ (Z 2 42 0) nO r nH y) r y (qHeard τ nO (nI r) y) (qLd (qL1 τ (Z 2 42 0) nO r nH y) (nI r) y nO) k) 14 0 ((6 * k) + r)) + 1)]; exact hP
                clear hD
                refine lv_iinc (v := nI (k + 1)) (lv' := [(5, .int (nI (k + 1))), (0, .ref (ms G o 0)), (1, .int (nI r)), (2, .int y), (3, .int (qHeard τ nO (nI r) y)), (4, .int (qLd (qL1 τ (Z 2 42 0) nO r nH y) (nI r) y nO))]) hx hb dX5_listen_183 hl (k := 5) rfl (nI_1 k) (by decide) rfl (fun ls hl => ?_)
                refine lv_goto (tgt := 126) hx hb dX5_listen_186 (by decide) ?_
                exact ih126 (k + 1) (by omega) _ (rfl) _ (by simp only [qL2]; rw [if_neg (not_not_intro c138)]; first | exact (if_pos c149).symm | (rw [if_neg c149]; first | exact (if_pos c164).symm | (rw [if_neg c164]))) _ _ hP hS ls (lv_sub hl [1, 2, 3, 4, 5, 0] rfl)
    exact lp126 (nO) 0 (by omega) _ (rfl) _ (rfl) _ _ hP hS ls (lv_sub hl [2, 3, 4, 5, 1, 0] rfl)
  refine lv_iload_n hx hb dX5_listen_7 rfl (lv_at hl 0 rfl) ?_
  refine lv_if_lt (tgt := 115) hx hb dX5_listen_8 (by decide) (fun c8 => ?_) (fun c8 => ?_)
  · exact jn115  _ (by simp [qL1, qCoin, c8]) _ _ hP hS ls (lv_sub hl [1, 2, 3, 0] rfl)
  · have hin := qHeard_in (by omega) c8
    have htu := (oTu_lt (hz8 _ hin.2).2.1 (hz8 _ hin.2).2.2.2).1
    change qTu τ _ < 6 at htu
    refine lv_aload_n hx hb dX5_listen_11 rfl (lv_at hl 1 rfl) ?_
    refine lv_iload_n hx hb dX5_listen_12 rfl (lv_at hl 0 rfl) ?_
    refine o_cVi (q0 := 3 + 18 * o + (0)) (ci := 7) [.int (qHeard τ nO (nI r) y)] [] ⟨hx, hb, hml, hown, hts⟩ (m_X5_tune l G Z ho τ nS nO nH hz ((qHeard τ nO (nI r) y).toNatClampNeg) (qHeard τ nO (nI r) y) (hin.1) (by omega)) (cwV 1 hts gX5_listen_X5_tune rfl rfl rfl (by decide +kernel) ⟨Nat.le_of_ble_eq_true rfl, Nat.le_of_ble_eq_true rfl⟩) hK hN hP rfl rfl (mt_S G Z ho τ) rfl hl.1 rfl (Nat.le_of_ble_eq_true rfl) dX5_listen_13 ⟨Nat.zero_le _, Nat.zero_le _⟩ ?_
    refine lv_istore (lv' := [(4, .int (nI (qTu τ ((qHeard τ nO (nI r) y).toNatClampNeg)))), (3, .int (qHeard τ nO (nI r) y)), (0, .ref (ms G o 0)), (1, .int (nI r)), (2, .int y)]) hx hb dX5_listen_16 hl (by decide) rfl (fun ls hl => ?_)
    refine lv_iconst (v := 0) hx hb dX5_listen_18 (by decide) ?_
    refine lv_aload_n hx hb dX5_listen_19 rfl (lv_at hl 2 rfl) ?_
    refine va_get (D := G.1) (ci := 7) (v := .ref (ms G o 2)) (C := RX5) (T := TX5) (N := 21) hx hb hts (fun w9 h9 => List.mem_cons_of_mem _ (List.mem_append_left _ (List.mem_append_right _ (h9)))) hown hK hP (3 + 18 * o + (0)) (mt_S G Z ho τ) rfl 3 (by decide) (hts (.fieldLink RX5 19 "OrganCensusModel$State" "taste" "[I") (List.mem_of_getElem? (i := 1) rfl)) (fun _ h9 => h9) rfl dX5_listen_20 ?_
    refine lv_bipush (v := 6) hx hb dX5_listen_23 (by decide) ?_
    refine lv_iload_n hx hb dX5_listen_25 rfl (lv_at hl 3 rfl) ?_
    refine lv_imul hx hb dX5_listen_26 ?_
    refine lv_iload hx hb dX5_listen_27 (lv_at hl 0 rfl) ?_
    refine lv_iadd hx hb dX5_listen_29 ?_
    refine o_iald (k := (6 * r) + (qTu τ ((qHeard τ nO (nI r) y).toNatClampNeg))) hx hb hK hP (3 + 18 * o + (2)) 0 (mt_A2 G Z ho τ) rfl (o_nadd (o_nmul (by decide) rfl) rfl) (by omega) (by decide) dX5_listen_30 ?_
    refine lv_aload_n hx hb dX5_listen_31 rfl (lv_at hl 2 rfl) ?_
    refine va_get (D := G.1) (ci := 7) (v := .ref (ms G o 3)) (C := RX5) (T := TX5) (N := 21) hx hb hts (fun w9 h9 => List.mem_cons_of_mem _ (List.mem_append_left _ (List.mem_append_right _ (h9)))) hown hK hP (3 + 18 * o + (0)) (mt_S G Z ho τ) rfl 4 (by decide) (hts (.fieldLink RX5 22 "OrganCensusModel$State" "weary" "[I") (List.mem_of_getElem? (i := 2) rfl)) (fun _ h9 => h9) rfl dX5_listen_32 ?_
    refine lv_bipush (v := 6) hx hb dX5_listen_35 (by decide) ?_
    refine lv_iload_n hx hb dX5_listen_37 rfl (lv_at hl 3 rfl) ?_
    refine lv_imul hx hb dX5_listen_38 ?_
    refine lv_iload hx hb dX5_listen_39 (lv_at hl 0 rfl) ?_
    refine lv_iadd hx hb dX5_listen_41 ?_
    refine o_iald (k := (6 * r) + (qTu τ ((qHeard τ nO (nI r) y).toNatClampNeg))) hx hb hK hP (3 + 18 * o + (3)) 0 (mt_A3 G Z ho τ) rfl (o_nadd (o_nmul (by decide) rfl) rfl) (by omega) (by decide) dX5_listen_42 ?_
    refine lv_isub hx hb dX5_listen_43 ?_
    refine lv_aload_n hx hb dX5_listen_44 rfl (lv_at hl 2 rfl) ?_
    refine va_get (D := G.1) (ci := 7) (v := .ref (ms G o 13)) (C := RX5) (T := TX5) (N := 21) hx hb hts (fun w9 h9 => List.mem_cons_of_mem _ (List.mem_append_left _ (List.mem_append_right _ (h9)))) hown hK hP (3 + 18 * o + (0)) (mt_S G Z ho τ) rfl 15 (by decide) (hts (.fieldLink RX5 52 "OrganCensusModel$State" "wear" "[I") (List.mem_of_getElem? (i := 3) rfl)) (fun _ h9 => h9) rfl dX5_listen_45 ?_
    refine lv_bipush (v := 6) hx hb dX5_listen_48 (by decide) ?_
    refine lv_iload_n hx hb dX5_listen_50 rfl (lv_at hl 1 rfl) ?_
    refine lv_imul hx hb dX5_listen_51 ?_
    refine lv_iload hx hb dX5_listen_52 (lv_at hl 0 rfl) ?_
    refine lv_iadd hx hb dX5_listen_54 ?_
    refine o_iald (k := (6 * ((qHeard τ nO (nI r) y).toNatClampNeg)) + (qTu τ ((qHeard τ nO (nI r) y).toNatClampNeg))) hx hb hK hP (3 + 18 * o + (13)) 0 (mt_A13 G Z ho τ) rfl (o_nadd (o_nmul (by decide) hin.1) rfl) (by omega) (by decide) dX5_listen_55 ?_
    refine lv_bipush (v := 10) hx hb dX5_listen_56 (by decide) ?_
    refine lv_idiv hx hb dX5_listen_58 (by decide) ?_
    refine lv_isub hx hb dX5_listen_59 ?_
    refine va_mmax (rest := []) hx hb (hml.trans hl.1.symm) hown (hts (.methodLink RX5 97 Lib.Math.max.name) (List.mem_of_getElem? (i := 4) rfl)) (hts (.static Lib.Math.max.name) (List.mem_of_getElem? (i := 5) rfl)) (hts (.initialized "java/lang/Math") (List.mem_of_getElem? (i := 6) rfl)) (hts (.code Lib.Math.max.name Lib.Math.max.code 2 (some .int)) (List.mem_of_getElem? (i := 7) rfl)) (Nat.le_of_ble_eq_true rfl) (Nat.le_of_ble_eq_true rfl) (Nat.zero_le _) (Nat.zero_le _) dX5_listen_60 ?_
    change W _ _ _ _ _ _ _ _ _ _ _ _ _ _ _ (F0 m 63 ls (.int (o_max 0 (((τ 2 0 ((6 * r) + (qTu τ ((qHeard τ nO (nI r) y).toNatClampNeg)))) - (τ 3 0 ((6 * r) + (qTu τ ((qHeard τ nO (nI r) y).toNatClampNeg))))) - ((τ 13 0 ((6 * ((qHeard τ nO (nI r) y).toNatClampNeg)) + (qTu τ ((qHeard τ nO (nI r) y).toNatClampNeg)))) / 10))) :: _))
    refine lv_istore (lv' := [(5, .int (o_max 0 (((τ 2 0 ((6 * r) + (qTu τ ((qHeard τ nO (nI r) y).toNatClampNeg)))) - (τ 3 0 ((6 * r) + (qTu τ ((qHeard τ nO (nI r) y).toNatClampNeg))))) - ((τ 13 0 ((6 * ((qHeard τ nO (nI r) y).toNatClampNeg)) + (qTu τ ((qHeard τ nO (nI r) y).toNatClampNeg)))) / 10)))), (4, .int (nI (qTu τ ((qHeard τ nO (nI r) y).toNatClampNeg)))), (3, .int (qHeard τ nO (nI r) y)), (0, .ref (ms G o 0)), (1, .int (nI r)), (2, .int y)]) hx hb dX5_listen_63 hl (by decide) rfl (fun ls hl => ?_)
    refine lv_aload_n hx hb dX5_listen_65 rfl (lv_at hl 3 rfl) ?_
    refine va_get (D := G.1) (ci := 7) (v := .ref (G.2.1 0)) (C := RX5) (T := TX5) (N := 21) hx hb hts (fun w9 h9 => List.mem_cons_of_mem _ (List.mem_append_left _ (List.mem_append_right _ (h9)))) hown hK hP (3 + 18 * o + (0)) (mt_S G Z ho τ) rfl 20 (by decide) (hts (.fieldLink RX5 3 "OrganCensusModel$State" "this$0" "LOrganCensusModel;") (List.mem_of_getElem? (i := 8) rfl)) (fun _ h9 => h9) rfl dX5_listen_66 ?_
    refine va_getN (D := G.1) (ci := 8) (v := .ref (G.2.1 1)) (C := RX6) (T := TX6) (N := 6) hx hb hts (fun w9 h9 => List.mem_cons_of_mem _ (List.mem_append_right _ (h9))) hown hK hP (0) (mt_M G Z ho τ) rfl 1 (by decide) (va_Nw.use rfl (hN.1 (RX5, 135, RX6, "passers", "[I", RX6) (List.mem_of_getElem? (i := 17) rfl))) (fun _ h9 => h9) rfl dX5_listen_69 ?_
    refine lv_bipush (v := 24) hx hb dX5_listen_72 (by decide) ?_
    refine lv_iload_n hx hb dX5_listen_74 rfl (lv_at hl 4 rfl) ?_
    refine lv_imul hx hb dX5_listen_75 ?_
    refine lv_aload_n hx hb dX5_listen_76 rfl (lv_at hl 3 rfl) ?_
    refine va_get (D := G.1) (ci := 7) (v := .int (τ 40 0 0)) (C := RX5) (T := TX5) (N := 21) hx hb hts (fun w9 h9 => List.mem_cons_of_mem _ (List.mem_append_left _ (List.mem_append_right _ (h9)))) hown hK hP (3 + 18 * o + (0)) (mt_S G Z ho τ) rfl 0 (by decide) (hts (.fieldLink RX5 74 "OrganCensusModel$State" "hour" "I") (List.mem_of_getElem? (i := 9) rfl)) (fun _ h9 => h9) rfl dX5_listen_77 ?_
    refine lv_bipush (v := 24) hx hb dX5_listen_80 (by decide) ?_
    refine o_irem hx hb dX5_listen_82 (by decide) ?_
    refine lv_iadd hx hb dX5_listen_83 ?_
    refine o_iald (k := (24 * r) + (nH % 24)) hx hb hK hP (1) 0 (mt_MP G Z ho τ) rfl (o_nadd (o_nmul (by decide) rfl) (o_rem_n hz5 (by decide) (by omega) (by decide) (by decide))) (by omega) (by decide) dX5_listen_84 ?_
    refine lv_iload hx hb dX5_listen_85 (lv_at hl 0 rfl) ?_
    refine lv_imul hx hb dX5_listen_87 ?_
    refine lv_bipush (v := 10) hx hb dX5_listen_88 (by decide) ?_
    refine lv_idiv hx hb dX5_listen_90 (by decide) ?_
    refine lv_istore (lv' := [(6, .int (((Z 2 42 0 ((24 * r) + (nH % 24))) * (o_max 0 (((τ 2 0 ((6 * r) + (qTu τ ((qHeard τ nO (nI r) y).toNatClampNeg)))) - (τ 3 0 ((6 * r) + (qTu τ ((qHeard τ nO (nI r) y).toNatClampNeg))))) - ((τ 13 0 ((6 * ((qHeard τ nO (nI r) y).toNatClampNeg)) + (qTu τ ((qHeard τ nO (nI r) y).toNatClampNeg)))) / 10)))) / 10)), (5, .int (o_max 0 (((τ 2 0 ((6 * r) + (qTu τ ((qHeard τ nO (nI r) y).toNatClampNeg)))) - (τ 3 0 ((6 * r) + (qTu τ ((qHeard τ nO (nI r) y).toNatClampNeg))))) - ((τ 13 0 ((6 * ((qHeard τ nO (nI r) y).toNatClampNeg)) + (qTu τ ((qHeard τ nO (nI r) y).toNatClampNeg)))) / 10)))), (4, .int (nI (qTu τ ((qHeard τ nO (nI r) y).toNatClampNeg)))), (3, .int (qHeard τ nO (nI r) y)), (0, .ref (ms G o 0)), (1, .int (nI r)), (2, .int y)]) hx hb dX5_listen_91 hl (by decide) rfl (fun ls hl => ?_)
    refine lv_aload_n hx hb dX5_listen_93 rfl (lv_at hl 4 rfl) ?_
    refine va_get (D := G.1) (ci := 7) (v := .ref (ms G o 10)) (C := RX5) (T := TX5) (N := 21) hx hb hts (fun w9 h9 => List.mem_cons_of_mem _ (List.mem_append_left _ (List.mem_append_right _ (h9)))) hown hK hP (3 + 18 * o + (0)) (mt_S G Z ho τ) rfl 12 (by decide) (hts (.fieldLink RX5 43 "OrganCensusModel$State" "coins" "[I") (List.mem_of_getElem? (i := 10) rfl)) (fun _ h9 => h9) rfl dX5_listen_94 ?_
    refine lv_iload_n hx hb dX5_listen_97 rfl (lv_at hl 3 rfl) ?_
    refine lv_dup2_11 hx hb dX5_listen_98 rfl rfl ?_
    refine o_iald (k := (qHeard τ nO (nI r) y).toNatClampNeg) hx hb hK hP (3 + 18 * o + (10)) 0 (mt_A10 G Z ho τ) rfl hin.1 (by omega) (by decide) dX5_listen_99 ?_
    refine lv_iload hx hb dX5_listen_100 (lv_at hl 0 rfl) ?_
    refine lv_iadd hx hb dX5_listen_102 ?_
    refine o_iast (k := (qHeard τ nO (nI r) y).toNatClampNeg) hx hb hK hP (mt_D G Z o _ hI) hS (3 + 18 * o + (10)) 0 (mt_A10 G Z ho τ) rfl hin.1 (by omega) (by decide) dX5_listen_103 (fun H locs hP hD hS => ?_)
    have hP : va_P G.1 vwCl (mtw G Z o (su τ 10 0 ((qHeard τ nO (nI r) y).toNatClampNeg) ((τ 10 0 ((qHeard τ nO (nI r) y).toNatClampNeg)) + (((Z 2 42 0 ((24 * r) + (nH % 24))) * (o_max 0 (((τ 2 0 ((6 * r) + (qTu τ ((qHeard τ nO (nI r) y).toNatClampNeg)))) - (τ 3 0 ((6 * r) + (qTu τ ((qHeard τ nO (nI r) y).toNatClampNeg))))) - ((τ 13 0 ((6 * ((qHeard τ nO (nI r) y).toNatClampNeg)) + (qTu τ ((qHeard τ nO (nI r) y).toNatClampNeg)))) / 10)))) / 10)))) H := by rw [← mt_uA10 G Z ho τ ((qHeard τ nO (nI r) y).toNatClampNeg) ((τ 10 0 ((qHeard τ nO (nI r) y).toNatClampNeg)) + (((Z 2 42 0 ((24 * r) + (nH % 24))) * (o_max 0 (((τ 2 0 ((6 * r) + (qTu τ ((qHeard τ nO (nI r) y).toNatClampNeg)))) - (τ 3 0 ((6 * r) + (qTu τ ((qHeard τ nO (nI r) y).toNatClampNeg))))) - ((τ 13 0 ((6 * ((qHeard τ nO (nI r) y).toNatClampNeg)) + (qTu τ ((qHeard τ nO (nI r) y).toNatClampNeg)))) / 10)))) / 10))]; exact hP
    clear hD
    refine lv_aload_n hx hb dX5_listen_104 rfl (lv_at hl 4 rfl) ?_
    refine va_get (D := G.1) (ci := 7) (v := .ref (ms G o 4)) (C := RX5) (T := TX5) (N := 21) hx hb hts (fun w9 h9 => List.mem_cons_of_mem _ (List.mem_append_left _ (List.mem_append_right _ (h9)))) hown hK hP (3 + 18 * o + (0)) (mt_S G Z ho (su τ 10 0 ((qHeard τ nO (nI r) y).toNatClampNeg) ((τ 10 0 ((qHeard τ nO (nI r) y).toNatClampNeg)) + (((Z 2 42 0 ((24 * r) + (nH % 24))) * (o_max 0 (((τ 2 0 ((6 * r) + (qTu τ ((qHeard τ nO (nI r) y).toNatClampNeg)))) - (τ 3 0 ((6 * r) + (qTu τ ((qHeard τ nO (nI r) y).toNatClampNeg))))) - ((τ 13 0 ((6 * ((qHeard τ nO (nI r) y).toNatClampNeg)) + (qTu τ ((qHeard τ nO (nI r) y).toNatClampNeg)))) / 10)))) / 10)))) rfl 5 (by decide) (hts (.fieldLink RX5 25 "OrganCensusModel$State" "given" "[I") (List.mem_of_getElem? (i := 11) rfl)) (fun _ h9 => h9) rfl dX5_listen_105 ?_
    refine lv_iload_n hx hb dX5_listen_108 rfl (lv_at hl 5 rfl) ?_
    refine lv_dup2_11 hx hb dX5_listen_109 rfl rfl ?_
    refine o_iald (k := r) hx hb hK hP (3 + 18 * o + (4)) 0 (mt_A4 G Z ho (su τ 10 0 ((qHeard τ nO (nI r) y).toNatClampNeg) ((τ 10 0 ((qHeard τ nO (nI r) y).toNatClampNeg)) + (((Z 2 42 0 ((24 * r) + (nH % 24))) * (o_max 0 (((τ 2 0 ((6 * r) + (qTu τ ((qHeard τ nO (nI r) y).toNatClampNeg)))) - (τ 3 0 ((6 * r) + (qTu τ ((qHeard τ nO (nI r) y).toNatClampNeg))))) - ((τ 13 0 ((6 * ((qHeard τ nO (nI r) y).toNatClampNeg)) + (qTu τ ((qHeard τ nO (nI r) y).toNatClampNeg)))) / 10)))) / 10)))) rfl rfl (by omega) (by decide) dX5_listen_110 ?_
    refine lv_iload hx hb dX5_listen_111 (lv_at hl 0 rfl) ?_
    refine lv_iadd hx hb dX5_listen_113 ?_
    refine o_iast (k := r) hx hb hK hP (mt_D G Z o _ hI) hS (3 + 18 * o + (4)) 0 (mt_A4 G Z ho (su τ 10 0 ((qHeard τ nO (nI r) y).toNatClampNeg) ((τ 10 0 ((qHeard τ nO (nI r) y).toNatClampNeg)) + (((Z 2 42 0 ((24 * r) + (nH % 24))) * (o_max 0 (((τ 2 0 ((6 * r) + (qTu τ ((qHeard τ nO (nI r) y).toNatClampNeg)))) - (τ 3 0 ((6 * r) + (qTu τ ((qHeard τ nO (nI r) y).toNatClampNeg))))) - ((τ 13 0 ((6 * ((qHeard τ nO (nI r) y).toNatClampNeg)) + (qTu τ ((qHeard τ nO (nI r) y).toNatClampNeg)))) / 10)))) / 10)))) rfl rfl (by omega) (by decide) dX5_listen_114 (fun H locs hP hD hS => ?_)
    have hP : va_P G.1 vwCl (mtw G Z o (su (su τ 10 0 ((qHeard τ nO (nI r) y).toNatClampNeg) ((τ 10 0 ((qHeard τ nO (nI r) y).toNatClampNeg)) + (((Z 2 42 0 ((24 * r) + (nH % 24))) * (o_max 0 (((τ 2 0 ((6 * r) + (qTu τ ((qHeard τ nO (nI r) y).toNatClampNeg)))) - (τ 3 0 ((6 * r) + (qTu τ ((qHeard τ nO (nI r) y).toNatClampNeg))))) - ((τ 13 0 ((6 * ((qHeard τ nO (nI r) y).toNatClampNeg)) + (qTu τ ((qHeard τ nO (nI r) y).toNatClampNeg)))) / 10)))) / 10))) 4 0 r (((su τ 10 0 ((qHeard τ nO (nI r) y).toNatClampNeg) ((τ 10 0 ((qHeard τ nO (nI r) y).toNatClampNeg)) + (((Z 2 42 0 ((24 * r) + (nH % 24))) * (o_max 0 (((τ 2 0 ((6 * r) + (qTu τ ((qHeard τ nO (nI r) y).toNatClampNeg)))) - (τ 3 0 ((6 * r) + (qTu τ ((qHeard τ nO (nI r) y).toNatClampNeg))))) - ((τ 13 0 ((6 * ((qHeard τ nO (nI r) y).toNatClampNeg)) + (qTu τ ((qHeard τ nO (nI r) y).toNatClampNeg)))) / 10)))) / 10))) 4 0 r) + (((Z 2 42 0 ((24 * r) + (nH % 24))) * (o_max 0 (((τ 2 0 ((6 * r) + (qTu τ ((qHeard τ nO (nI r) y).toNatClampNeg)))) - (τ 3 0 ((6 * r) + (qTu τ ((qHeard τ nO (nI r) y).toNatClampNeg))))) - ((τ 13 0 ((6 * ((qHeard τ nO (nI r) y).toNatClampNeg)) + (qTu τ ((qHeard τ nO (nI r) y).toNatClampNeg)))) / 10)))) / 10)))) H := by rw [← mt_uA4 G Z ho (su τ 10 0 ((qHeard τ nO (nI r) y).toNatClampNeg) ((τ 10 0 ((qHeard τ nO (nI r) y).toNatClampNeg)) + (((Z 2 42 0 ((24 * r) + (nH % 24))) * (o_max 0 (((τ 2 0 ((6 * r) + (qTu τ ((qHeard τ nO (nI r) y).toNatClampNeg)))) - (τ 3 0 ((6 * r) + (qTu τ ((qHeard τ nO (nI r) y).toNatClampNeg))))) - ((τ 13 0 ((6 * ((qHeard τ nO (nI r) y).toNatClampNeg)) + (qTu τ ((qHeard τ nO (nI r) y).toNatClampNeg)))) / 10)))) / 10))) r (((su τ 10 0 ((qHeard τ nO (nI r) y).toNatClampNeg) ((τ 10 0 ((qHeard τ nO (nI r) y).toNatClampNeg)) + (((Z 2 42 0 ((24 * r) + (nH % 24))) * (o_max 0 (((τ 2 0 ((6 * r) + (qTu τ ((qHeard τ nO (nI r) y).toNatClampNeg)))) - (τ 3 0 ((6 * r) + (qTu τ ((qHeard τ nO (nI r) y).toNatClampNeg))))) - ((τ 13 0 ((6 * ((qHeard τ nO (nI r) y).toNatClampNeg)) + (qTu τ ((qHeard τ nO (nI r) y).toNatClampNeg)))) / 10)))) / 10))) 4 0 r) + (((Z 2 42 0 ((24 * r) + (nH % 24))) * (o_max 0 (((τ 2 0 ((6 * r) + (qTu τ ((qHeard τ nO (nI r) y).toNatClampNeg)))) - (τ 3 0 ((6 * r) + (qTu τ ((qHeard τ nO (nI r) y).toNatClampNeg))))) - ((τ 13 0 ((6 * ((qHeard τ nO (nI r) y).toNatClampNeg)) + (qTu τ ((qHeard τ nO (nI r) y).toNatClampNeg)))) / 10)))) / 10))]; exact hP
    clear hD
    exact jn115  _ (by simp [qL1, qCoin, c8]) _ _ hP hS ls (lv_sub hl [4, 5, 6, 3] rfl)
set_option maxHeartbeats 4000000 in
set_option maxRecDepth 100000 in
theorem m_X5_sweep (l : Launch) (G : oG) (Z : oZ) {o : Nat} (ho : o < 2) (hI : wl_I G.2.1 39) (τ : oT) (nS : Nat) (nO : Nat) (nH : Nat) (hz : qOK τ nS nO nH) (r : Nat) (ar : Int32) (er : ar = nI r) (hrS : r < nS) (hO1 : 1 ≤ nO) : Met l yX5_sweep wsX5_sweep ({ frames := 0, cells := 0, slots := 0, locals := 0 } : Room) (va_Pc [.ref (ms G o 0), .int ar] (PW G (mtw G Z o τ))) (oQ none (fun H9 => va_P G.1 vwCl (mtw G Z o (qSweep τ nS nO r)) H9) (mA G)) 0 0 (mA G) := by
  subst er
  refine o_body (cc := cX5_sweep) (by decide +kernel) rfl (Nat.le_of_ble_eq_true rfl) ?_
  intro p e s m below meth c ls hx hb hml hr hlocks hown hts hP hK hN hl
  have hown : s.vm.findClass RX5 = some m.cls := hown
  have hl : lv_has ls 5 [(0, .ref (ms G o 0)), (1, .int (nI r))] := hl
  have hS : va_S (mA G) s.heap s.heap [] := va_S.rf
  obtain ⟨hz1, hz2, hz3, hz4, hz5, hz6, hz7, hz8⟩ := id hz
  refine lv_iconst (v := 0) hx hb dX5_sweep_0 (by decide) ?_
  refine lv_istore_n (lv' := [(2, .int 0), (0, .ref (ms G o 0)), (1, .int (nI r))]) hx hb dX5_sweep_1 rfl hl (by decide) rfl (fun ls hl => ?_)
  refine lv_iconst (v := 1) hx hb dX5_sweep_2 (by decide) ?_
  refine lv_istore_n (lv' := [(3, .int 1), (2, .int 0), (0, .ref (ms G o 0)), (1, .int (nI r))]) hx hb dX5_sweep_3 rfl hl (by decide) rfl (fun ls hl => ?_)
  have lp4 : ∀ (d4 k : Nat), k + d4 = nO - 1 → ∀ x4_2 : Int32, x4_2 = (nI (qWo τ r k)) → ∀ x4_3 : Int32, x4_3 = (nI (k + 1)) → ∀ ls : Array Slot, lv_has ls 5 [(0, .ref (ms G o 0)), (1, .int (nI r)), (2, .int x4_2), (3, .int x4_3)] → W p l e ({ frames := 0, cells := 0, slots := 0, locals := 0 } : Room) s m ([.ref (ms G o 0), .int (nI r)] : List Value).toArray below meth c s.heap [] 0 0 (MQ below (oQ none (fun H9 => va_P G.1 vwCl (mtw G Z o (qSweep τ nS nO r)) H9) (mA G)) ([.ref (ms G o 0), .int (nI r)] : List Value).toArray s 0 0 (mA G)) (F0 m 4 ls []) := by
    intro d4
    induction d4 with
    | zero =>
      intro k hk4 x4_2 e4_2 x4_3 e4_3 ls hl
      subst e4_2
      subst e4_3
      have hk4 : k = nO - 1 := by omega
      have hwo := qWo_le τ r k
      refine lv_iload_n hx hb dX5_sweep_4 rfl (lv_at hl 3 rfl) ?_
      refine lv_aload_n hx hb dX5_sweep_5 rfl (lv_at hl 0 rfl) ?_
      refine va_get (D := G.1) (ci := 7) (v := .int (τ 40 0 2)) (C := RX5) (T := TX5) (N := 21) hx hb hts (fun w9 h9 => List.mem_cons_of_mem _ (List.mem_append_right _ (h9))) hown hK hP (3 + 18 * o + (0)) (mt_S G Z ho τ) rfl 7 (by decide) (hts (.fieldLink RX5 81 "OrganCensusModel$State" "organs" "I") (List.mem_of_getElem? (i := 1) rfl)) (fun _ h9 => h9) rfl dX5_sweep_6 ?_
      refine lv_icmp_ge (tgt := 49) hx hb dX5_sweep_9 (by decide) (fun c9 => ?_) (fun c9 => ?_)
      · have n9 := (o_nle (a := nO) (b := k + 1) hz.2.2.1 rfl (by omega) (by omega)).mp c9
        refine lv_aload_n hx hb dX5_sweep_49 rfl (lv_at hl 0 rfl) ?_
        refine va_get (D := G.1) (ci := 7) (v := .ref (ms G o 15)) (C := RX5) (T := TX5) (N := 21) hx hb hts (fun w9 h9 => List.mem_cons_of_mem _ (List.mem_append_right _ (h9))) hown hK hP (3 + 18 * o + (0)) (mt_S G Z ho τ) rfl 17 (by decide) (hts (.fieldLink RX5 58 "OrganCensusModel$State" "banished" "[I") (List.mem_of_getElem? (i := 3) rfl)) (fun _ h9 => h9) rfl dX5_sweep_50 ?_
        refine lv_bipush (v := 6) hx hb dX5_sweep_53 (by decide) ?_
        refine lv_iload_n hx hb dX5_sweep_55 rfl (lv_at hl 2 rfl) ?_
        refine lv_imul hx hb dX5_sweep_56 ?_
        refine lv_iload_n hx hb dX5_sweep_57 rfl (lv_at hl 1 rfl) ?_
        refine lv_iadd hx hb dX5_sweep_58 ?_
        refine lv_bipush (v := 24) hx hb dX5_sweep_59 (by decide) ?_
        refine o_iast (k := (6 * (qWo τ r k)) + r) hx hb hK hP (mt_D G Z o _ hI) hS (3 + 18 * o + (15)) 0 (mt_A15 G Z ho τ) rfl (o_nadd (o_nmul (by decide) rfl) rfl) (by omega) (by decide) dX5_sweep_61 (fun H locs hP hD hS => ?_)
        have hP : va_P G.1 vwCl (mtw G Z o (su τ 15 0 ((6 * (qWo τ r k)) + r) 24)) H := by rw [← mt_uA15 G Z ho τ ((6 * (qWo τ r k)) + r) 24]; exact hP
        clear hD
        refine lv_aload_n hx hb dX5_sweep_62 rfl (lv_at hl 0 rfl) ?_
        refine va_get (D := G.1) (ci := 7) (v := .ref (ms G o 17)) (C := RX5) (T := TX5) (N := 21) hx hb hts (fun w9 h9 => List.mem_cons_of_mem _ (List.mem_append_right _ (h9))) hown hK hP (3 + 18 * o + (0)) (mt_S G Z ho (su τ 15 0 ((6 * (qWo τ r k)) + r) 24)) rfl 19 (by decide) (hts (.fieldLink RX5 65 "OrganCensusModel$State" "isNew" "[Z") (List.mem_of_getElem? (i := 4) rfl)) (fun _ h9 => h9) rfl dX5_sweep_63 ?_
        refine lv_bipush (v := 6) hx hb dX5_sweep_66 (by decide) ?_
        refine lv_iload_n hx hb dX5_sweep_68 rfl (lv_at hl 2 rfl) ?_
        refine lv_imul hx hb dX5_sweep_69 ?_
        refine lv_iload_n hx hb dX5_sweep_70 rfl (lv_at hl 1 rfl) ?_
        refine lv_iadd hx hb dX5_sweep_71 ?_
        refine lv_iconst (v := 1) hx hb dX5_sweep_72 (by decide) ?_
        refine o_zast (k := (6 * (qWo τ r k)) + r) hx hb hK hP (mt_D G Z o _ hI) hS (3 + 18 * o + (17)) 4 (mt_A17 G Z ho (su τ 15 0 ((6 * (qWo τ r k)) + r) 24)) rfl (o_nadd (o_nmul (by decide) rfl) rfl) (by omega) (by decide) (by decide) dX5_sweep_73 (fun H locs hP hD hS => ?_)
        have hP : va_P G.1 vwCl (mtw G Z o (su (su τ 15 0 ((6 * (qWo τ r k)) + r) 24) 17 0 ((6 * (qWo τ r k)) + r) 1)) H := by rw [← mt_uA17 G Z ho (su τ 15 0 ((6 * (qWo τ r k)) + r) 24) ((6 * (qWo τ r k)) + r) 1]; exact hP
        clear hD
        refine lv_aload_n hx hb dX5_sweep_74 rfl (lv_at hl 0 rfl) ?_
        refine va_get (D := G.1) (ci := 7) (v := .ref (ms G o 5)) (C := RX5) (T := TX5) (N := 21) hx hb hts (fun w9 h9 => List.mem_cons_of_mem _ (List.mem_append_right _ (h9))) hown hK hP (3 + 18 * o + (0)) (mt_S G Z ho (su (su τ 15 0 ((6 * (qWo τ r k)) + r) 24) 17 0 ((6 * (qWo τ r k)) + r) 1)) rfl 6 (by decide) (hts (.fieldLink RX5 28 "OrganCensusModel$State" "sent" "[I") (List.mem_of_getElem? (i := 5) rfl)) (fun _ h9 => h9) rfl dX5_sweep_75 ?_
        refine lv_iload_n hx hb dX5_sweep_78 rfl (lv_at hl 1 rfl) ?_
        refine lv_dup2_11 hx hb dX5_sweep_79 rfl rfl ?_
        refine o_iald (k := r) hx hb hK hP (3 + 18 * o + (5)) 0 (mt_A5 G Z ho (su (su τ 15 0 ((6 * (qWo τ r k)) + r) 24) 17 0 ((6 * (qWo τ r k)) + r) 1)) rfl rfl (by omega) (by decide) dX5_sweep_80 ?_
        refine lv_iconst (v := 1) hx hb dX5_sweep_81 (by decide) ?_
        refine lv_iadd hx hb dX5_sweep_82 ?_
        refine o_iast (k := r) hx hb hK hP (mt_D G Z o _ hI) hS (3 + 18 * o + (5)) 0 (mt_A5 G Z ho (su (su τ 15 0 ((6 * (qWo τ r k)) + r) 24) 17 0 ((6 * (qWo τ r k)) + r) 1)) rfl rfl (by omega) (by decide) dX5_sweep_83 (fun H locs hP hD hS => ?_)
        have hP : va_P G.1 vwCl (mtw G Z o (su (su (su τ 15 0 ((6 * (qWo τ r k)) + r) 24) 17 0 ((6 * (qWo τ r k)) + r) 1) 5 0 r (((su (su τ 15 0 ((6 * (qWo τ r k)) + r) 24) 17 0 ((6 * (qWo τ r k)) + r) 1) 5 0 r) + 1))) H := by rw [← mt_uA5 G Z ho (su (su τ 15 0 ((6 * (qWo τ r k)) + r) 24) 17 0 ((6 * (qWo τ r k)) + r) 1) r (((su (su τ 15 0 ((6 * (qWo τ r k)) + r) 24) 17 0 ((6 * (qWo τ r k)) + r) 1) 5 0 r) + 1)]; exact hP
        clear hD
        refine lv_iconst (v := 0) hx hb dX5_sweep_84 (by decide) ?_
        refine lv_istore_n (lv' := [(3, .int 0), (0, .ref (ms G o 0)), (1, .int (nI r)), (2, .int (nI (qWo τ r k)))]) hx hb dX5_sweep_85 rfl hl (by decide) rfl (fun ls hl => ?_)
        have lp86 : ∀ (d86 j : Nat), j + d86 = nO → ∀ x86_3 : Int32, x86_3 = (nI j) → ∀ (τ86 : oT), τ86 = (qZc (qS1 τ (qWo τ r k) r) r j) → ∀ (H : Heap) (locs : List Loc), va_P G.1 vwCl (mtw G Z o τ86) H → va_S (mA G) s.heap H locs → ∀ ls : Array Slot, lv_has ls 5 [(0, .ref (ms G o 0)), (1, .int (nI r)), (2, .int (nI (qWo τ r k))), (3, .int x86_3)] → W p l e ({ frames := 0, cells := 0, slots := 0, locals := 0 } : Room) s m ([.ref (ms G o 0), .int (nI r)] : List Value).toArray below meth c H locs 0 0 (MQ below (oQ none (fun H9 => va_P G.1 vwCl (mtw G Z o (qSweep τ nS nO r)) H9) (mA G)) ([.ref (ms G o 0), .int (nI r)] : List Value).toArray s 0 0 (mA G)) (F0 m 86 ls []) := by
          intro d86
          induction d86 with
          | zero =>
            intro j hk86 x86_3 e86_3 τ86 eτ86 H locs hP hS ls hl
            subst e86_3
            subst eτ86
            have hz86 : qOK (qZc (qS1 τ (qWo τ r k) r) r j) nS nO nH := (hz.of (qS1_kp _ _ _)).of (qZc_kp _ _ _)
            have hk86 : j = nO := by omega
            refine lv_iload_n hx hb dX5_sweep_86 rfl (lv_at hl 3 rfl) ?_
            refine lv_aload_n hx hb dX5_sweep_87 rfl (lv_at hl 0 rfl) ?_
            refine va_get (D := G.1) (ci := 7) (v := .int ((qZc (qS1 τ (qWo τ r k) r) r j) 40 0 2)) (C := RX5) (T := TX5) (N := 21) hx hb hts (fun w9 h9 => List.mem_cons_of_mem _ (List.mem_append_right _ (h9))) hown hK hP (3 + 18 * o + (0)) (mt_S G Z ho (qZc (qS1 τ (qWo τ r k) r) r j)) rfl 7 (by decide) (hts (.fieldLink RX5 81 "OrganCensusModel$State" "organs" "I") (List.mem_of_getElem? (i := 1) rfl)) (fun _ h9 => h9) rfl dX5_sweep_88 ?_
            refine lv_icmp_ge (tgt := 112) hx hb dX5_sweep_91 (by decide) (fun c91 => ?_) (fun c91 => ?_)
            · have n91 := (o_nle (a := nO) (b := j) hz86.2.2.1 rfl (by omega) (by omega)).mp c91
              have hP : va_P G.1 vwCl (mtw G Z o (qS2 τ nO r)) H := by rw [show qS2 τ nO r = qZc (qS1 τ (qWo τ r k) r) r j from by rw [hk86, hk4]; rfl]; exact hP
              have hz112 : qOK (qS2 τ nO r) nS nO nH := hz.of (qS2_kp _ _ _)
              refine lv_aload_n hx hb dX5_sweep_112 rfl (lv_at hl 0 rfl) ?_
              refine va_get (D := G.1) (ci := 7) (v := .ref (ms G o 6)) (C := RX5) (T := TX5) (N := 21) hx hb hts (fun w9 h9 => List.mem_cons_of_mem _ (List.mem_append_right _ (h9))) hown hK hP (3 + 18 * o + (0)) (mt_S G Z ho (qS2 τ nO r)) rfl 8 (by decide) (hts (.fieldLink RX5 31 "OrganCensusModel$State" "at" "[I") (List.mem_of_getElem? (i := 6) rfl)) (fun _ h9 => h9) rfl dX5_sweep_113 ?_
              refine lv_iload_n hx hb dX5_sweep_116 rfl (lv_at hl 2 rfl) ?_
              refine o_iald (k := qWo τ r k) hx hb hK hP (3 + 18 * o + (6)) 0 (mt_A6 G Z ho (qS2 τ nO r)) rfl rfl (by omega) (by decide) dX5_sweep_117 ?_
              refine lv_iload_n hx hb dX5_sweep_118 rfl (lv_at hl 1 rfl) ?_
              refine lv_icmp_ne (tgt := 131) hx hb dX5_sweep_119 (by decide) (fun c119 => ?_) (fun c119 => ?_)
              · exact o_vretM hx hb hr hlocks hS dX5_sweep_131 (by have hP9 := hP; subst hk4; first | (subst hk142; simp only [qSweep, c9, c91, c119, not_false_eq_true, not_true_eq_false, if_true, if_false]; exact hP9) | (simp only [qSweep, c9, c91, c119, not_false_eq_true, not_true_eq_false, if_true, if_false]; exact hP9))
              · refine lv_aload_n hx hb dX5_sweep_122 rfl (lv_at hl 0 rfl) ?_
                refine va_get (D := G.1) (ci := 7) (v := .ref (ms G o 8)) (C := RX5) (T := TX5) (N := 21) hx hb hts (fun w9 h9 => List.mem_cons_of_mem _ (List.mem_append_right _ (h9))) hown hK hP (3 + 18 * o + (0)) (mt_S G Z ho (qS2 τ nO r)) rfl 10 (by decide) (hts (.fieldLink RX5 37 "OrganCensusModel$State" "left" "[I") (List.mem_of_getElem? (i := 7) rfl)) (fun _ h9 => h9) rfl dX5_sweep_123 ?_
                refine lv_iload_n hx hb dX5_sweep_126 rfl (lv_at hl 2 rfl) ?_
                refine o_iald (k := qWo τ r k) hx hb hK hP (3 + 18 * o + (8)) 0 (mt_A8 G Z ho (qS2 τ nO r)) rfl rfl (by omega) (by decide) dX5_sweep_127 ?_
                refine lv_if_le (tgt := 132) hx hb dX5_sweep_128 (by decide) (fun c128 => ?_) (fun c128 => ?_)
                · refine lv_iload_n hx hb dX5_sweep_132 rfl (lv_at hl 1 rfl) ?_
                  refine lv_istore_n (lv' := [(3, .int (nI r)), (0, .ref (ms G o 0)), (1, .int (nI r)), (2, .int (nI (qWo τ r k)))]) hx hb dX5_sweep_133 rfl hl (by decide) rfl (fun ls hl => ?_)
                  refine lv_aload_n hx hb dX5_sweep_134 rfl (lv_at hl 1 rfl) ?_
                  refine va_get (D := G.1) (ci := 7) (v := .int ((qS2 τ nO r) 40 0 1)) (C := RX5) (T := TX5) (N := 21) hx hb hts (fun w9 h9 => List.mem_cons_of_mem _ (List.mem_append_right _ (h9))) hown hK hP (3 + 18 * o + (0)) (mt_S G Z ho (qS2 τ nO r)) rfl 1 (by decide) (hts (.fieldLink RX5 78 "OrganCensusModel$State" "streets" "I") (List.mem_of_getElem? (i := 8) rfl)) (fun _ h9 => h9) rfl dX5_sweep_135 ?_
                  refine lv_iconst (v := 1) hx hb dX5_sweep_138 (by decide) ?_
                  refine lv_isub hx hb dX5_sweep_139 ?_
                  refine lv_istore (lv' := [(4, .int (((qS2 τ nO r) 40 0 1) - 1)), (3, .int (nI r)), (0, .ref (ms G o 0)), (1, .int (nI r)), (2, .int (nI (qWo τ r k)))]) hx hb dX5_sweep_140 hl (by decide) rfl (fun ls hl => ?_)
                  have lp142 : ∀ (d142 q : Nat), q + d142 = nS - 1 → ∀ x142_3 : Int32, x142_3 = (nI (qTo (qS2 τ nO r) (qWo τ r k) r nS q)) → ∀ x142_4 : Int32, x142_4 = (nI (nS - 1 - q)) → ∀ ls : Array Slot, lv_has ls 5 [(0, .ref (ms G o 0)), (1, .int (nI r)), (2, .int (nI (qWo τ r k))), (3, .int x142_3), (4, .int x142_4)] → W p l e ({ frames := 0, cells := 0, slots := 0, locals := 0 } : Room) s m ([.ref (ms G o 0), .int (nI r)] : List Value).toArray below meth c H locs 0 0 (MQ below (oQ none (fun H9 => va_P G.1 vwCl (mtw G Z o (qSweep τ nS nO r)) H9) (mA G)) ([.ref (ms G o 0), .int (nI r)] : List Value).toArray s 0 0 (mA G)) (F0 m 142 ls []) := by
                    intro d142
                    induction d142 with
                    | zero =>
                      intro q hk142 x142_3 e142_3 x142_4 e142_4 ls hl
                      subst e142_3
                      subst e142_4
                      have hk142 : q = nS - 1 := by omega
                      refine lv_iload hx hb dX5_sweep_142 (lv_at hl 4 rfl) ?_
                      refine lv_if_le (tgt := 185) hx hb dX5_sweep_144 (by decide) (fun c144 => ?_) (fun c144 => ?_)
                      · refine lv_aload_n hx hb dX5_sweep_185 rfl (lv_at hl 0 rfl) ?_
                        refine va_get (D := G.1) (ci := 7) (v := .ref (ms G o 6)) (C := RX5) (T := TX5) (N := 21) hx hb hts (fun w9 h9 => List.mem_cons_of_mem _ (List.mem_append_right _ (h9))) hown hK hP (3 + 18 * o + (0)) (mt_S G Z ho (qS2 τ nO r)) rfl 8 (by decide) (hts (.fieldLink RX5 31 "OrganCensusModel$State" "at" "[I") (List.mem_of_getElem? (i := 6) rfl)) (fun _ h9 => h9) rfl dX5_sweep_186 ?_
                        refine lv_iload_n hx hb dX5_sweep_189 rfl (lv_at hl 2 rfl) ?_
                        refine lv_iload_n hx hb dX5_sweep_190 rfl (lv_at hl 3 rfl) ?_
                        refine o_iast (k := qWo τ r k) hx hb hK hP (mt_D G Z o _ hI) hS (3 + 18 * o + (6)) 0 (mt_A6 G Z ho (qS2 τ nO r)) rfl rfl (by omega) (by decide) dX5_sweep_191 (fun H locs hP hD hS => ?_)
                        have hP : va_P G.1 vwCl (mtw G Z o (su (qS2 τ nO r) 6 0 (qWo τ r k) (nI (qTo (qS2 τ nO r) (qWo τ r k) r nS q)))) H := by rw [← mt_uA6 G Z ho (qS2 τ nO r) (qWo τ r k) (nI (qTo (qS2 τ nO r) (qWo τ r k) r nS q))]; exact hP
                        clear hD
                        refine lv_aload_n hx hb dX5_sweep_192 rfl (lv_at hl 0 rfl) ?_
                        refine va_get (D := G.1) (ci := 7) (v := .ref (ms G o 7)) (C := RX5) (T := TX5) (N := 21) hx hb hts (fun w9 h9 => List.mem_cons_of_mem _ (List.mem_append_right _ (h9))) hown hK hP (3 + 18 * o + (0)) (mt_S G Z ho (su (qS2 τ nO r) 6 0 (qWo τ r k) (nI (qTo (qS2 τ nO r) (qWo τ r k) r nS q)))) rfl 9 (by decide) (hts (.fieldLink RX5 34 "OrganCensusModel$State" "pitch" "[I") (List.mem_of_getElem? (i := 9) rfl)) (fun _ h9 => h9) rfl dX5_sweep_193 ?_
                        refine lv_iload_n hx hb dX5_sweep_196 rfl (lv_at hl 2 rfl) ?_
                        refine lv_iconst (v := 0) hx hb dX5_sweep_197 (by decide) ?_
                        refine o_iast (k := qWo τ r k) hx hb hK hP (mt_D G Z o _ hI) hS (3 + 18 * o + (7)) 0 (mt_A7 G Z ho (su (qS2 τ nO r) 6 0 (qWo τ r k) (nI (qTo (qS2 τ nO r) (qWo τ r k) r nS q)))) rfl rfl (by omega) (by decide) dX5_sweep_198 (fun H locs hP hD hS => ?_)
                        have hP : va_P G.1 vwCl (mtw G Z o (su (su (qS2 τ nO r) 6 0 (qWo τ r k) (nI (qTo (qS2 τ nO r) (qWo τ r k) r nS q))) 7 0 (qWo τ r k) 0)) H := by rw [← mt_uA7 G Z ho (su (qS2 τ nO r) 6 0 (qWo τ r k) (nI (qTo (qS2 τ nO r) (qWo τ r k) r nS q))) (qWo τ r k) 0]; exact hP
                        clear hD
                        refine lv_aload_n hx hb dX5_sweep_199 rfl (lv_at hl 0 rfl) ?_
                        refine va_get (D := G.1) (ci := 7) (v := .ref (ms G o 8)) (C := RX5) (T := TX5) (N := 21) hx hb hts (fun w9 h9 => List.mem_cons_of_mem _ (List.mem_append_right _ (h9))) hown hK hP (3 + 18 * o + (0)) (mt_S G Z ho (su (su (qS2 τ nO r) 6 0 (qWo τ r k) (nI (qTo (qS2 τ nO r) (qWo τ r k) r nS q))) 7 0 (qWo τ r k) 0)) rfl 10 (by decide) (hts (.fieldLink RX5 37 "OrganCensusModel$State" "left" "[I") (List.mem_of_getElem? (i := 7) rfl)) (fun _ h9 => h9) rfl dX5_sweep_200 ?_
                        refine lv_iload_n hx hb dX5_sweep_203 rfl (lv_at hl 2 rfl) ?_
                        refine lv_iconst (v := 2) hx hb dX5_sweep_204 (by decide) ?_
                        refine o_iast (k := qWo τ r k) hx hb hK hP (mt_D G Z o _ hI) hS (3 + 18 * o + (8)) 0 (mt_A8 G Z ho (su (su (qS2 τ nO r) 6 0 (qWo τ r k) (nI (qTo (qS2 τ nO r) (qWo τ r k) r nS q))) 7 0 (qWo τ r k) 0)) rfl rfl (by omega) (by decide) dX5_sweep_205 (fun H locs hP hD hS => ?_)
                        have hP : va_P G.1 vwCl (mtw G Z o (su (su (su (qS2 τ nO r) 6 0 (qWo τ r k) (nI (qTo (qS2 τ nO r) (qWo τ r k) r nS q))) 7 0 (qWo τ r k) 0) 8 0 (qWo τ r k) 2)) H := by rw [← mt_uA8 G Z ho (su (su (qS2 τ nO r) 6 0 (qWo τ r k) (nI (qTo (qS2 τ nO r) (qWo τ r k) r nS q))) 7 0 (qWo τ r k) 0) (qWo τ r k) 2]; exact hP
                        clear hD
                        exact o_vretM hx hb hr hlocks hS dX5_sweep_206 (by have hP9 := hP; subst hk4; first | (subst hk142; simp only [qSweep, c9, c91, c119, c128, c144, not_false_eq_true, not_true_eq_false, if_true, if_false]; exact hP9) | (simp only [qSweep, c9, c91, c119, c128, c144, not_false_eq_true, not_true_eq_false, if_true, if_false]; exact hP9))
                      · exact absurd ((o_le0 (n := nS - 1 - q) rfl (by omega)).mpr (by omega)) c144
                    | succ d142 ih142 =>
                      intro q hk142 x142_3 e142_3 x142_4 e142_4 ls hl
                      subst e142_3
                      subst e142_4
                      have hj142 : q < nS - 1 := by omega
                      refine lv_iload hx hb dX5_sweep_142 (lv_at hl 4 rfl) ?_
                      refine lv_if_le (tgt := 185) hx hb dX5_sweep_144 (by decide) (fun c144 => ?_) (fun c144 => ?_)
                      · exact absurd ((o_le0 (n := nS - 1 - q) rfl (by omega)).mp c144) (by omega)
                      · refine lv_aload_n hx hb dX5_sweep_147 rfl (lv_at hl 0 rfl) ?_
                        refine va_get (D := G.1) (ci := 7) (v := .ref (ms G o 15)) (C := RX5) (T := TX5) (N := 21) hx hb hts (fun w9 h9 => List.mem_cons_of_mem _ (List.mem_append_right _ (h9))) hown hK hP (3 + 18 * o + (0)) (mt_S G Z ho (qS2 τ nO r)) rfl 17 (by decide) (hts (.fieldLink RX5 58 "OrganCensusModel$State" "banished" "[I") (List.mem_of_getElem? (i := 3) rfl)) (fun _ h9 => h9) rfl dX5_sweep_148 ?_
                        refine lv_bipush (v := 6) hx hb dX5_sweep_151 (by decide) ?_
                        refine lv_iload_n hx hb dX5_sweep_153 rfl (lv_at hl 2 rfl) ?_
                        refine lv_imul hx hb dX5_sweep_154 ?_
                        refine lv_iload_n hx hb dX5_sweep_155 rfl (lv_at hl 1 rfl) ?_
                        refine lv_iload hx hb dX5_sweep_156 (lv_at hl 4 rfl) ?_
                        refine lv_iadd hx hb dX5_sweep_158 ?_
                        refine lv_aload_n hx hb dX5_sweep_159 rfl (lv_at hl 0 rfl) ?_
                        refine va_get (D := G.1) (ci := 7) (v := .int ((qS2 τ nO r) 40 0 1)) (C := RX5) (T := TX5) (N := 21) hx hb hts (fun w9 h9 => List.mem_cons_of_mem _ (List.mem_append_right _ (h9))) hown hK hP (3 + 18 * o + (0)) (mt_S G Z ho (qS2 τ nO r)) rfl 1 (by decide) (hts (.fieldLink RX5 78 "OrganCensusModel$State" "streets" "I") (List.mem_of_getElem? (i := 8) rfl)) (fun _ h9 => h9) rfl dX5_sweep_160 ?_
                        refine o_irem hx hb dX5_sweep_163 (by rw [hz112.1]; exact nI_ne0 (by omega) (by omega)) ?_
                        refine lv_iadd hx hb dX5_sweep_164 ?_
                        have hm : (r + (nS - 1 - q)) % nS < nS := Nat.mod_lt _ (by omega)
                        refine o_iald (k := (6 * (qWo τ r k)) + ((r + (nS - 1 - q)) % nS)) hx hb hK hP (3 + 18 * o + (15)) 0 (mt_A15 G Z ho (qS2 τ nO r)) rfl (o_nadd (o_nmul (by decide) rfl) (o_rem_n (o_nadd rfl rfl) hz112.1 (by omega) (by omega) (by omega))) (by omega) (by decide) dX5_sweep_165 ?_
                        refine lv_if_ne (tgt := 179) hx hb dX5_sweep_166 (by decide) (fun c166 => ?_) (fun c166 => ?_)
                        · refine lv_iinc (v := nI (nS - 1 - (q + 1))) (lv' := [(4, .int (nI (nS - 1 - (q + 1)))), (0, .ref (ms G o 0)), (1, .int (nI r)), (2, .int (nI (qWo τ r k))), (3, .int (nI (qTo (qS2 τ nO r) (qWo τ r k) r nS q)))]) hx hb dX5_sweep_179 hl (k := 4) rfl (by rw [show nS - 1 - q = nS - 1 - (q + 1) + 1 by omega]; exact pk_m1 _) (by decide) rfl (fun ls hl => ?_)
                          refine lv_goto (tgt := 142) hx hb dX5_sweep_182 (by decide) ?_
                          exact ih142 (q + 1) (by omega) _ (by rw [qTo]; first | (rw [if_neg c166]; done) | (rw [if_pos c166]; exact o_rem_n (o_nadd rfl rfl) hz112.1 (by omega) (by omega) (by omega))) _ (rfl) ls (lv_sub hl [1, 2, 3, 4, 0] rfl)
                        · refine lv_iload_n hx hb dX5_sweep_169 rfl (lv_at hl 1 rfl) ?_
                          refine lv_iload hx hb dX5_sweep_170 (lv_at hl 4 rfl) ?_
                          refine lv_iadd hx hb dX5_sweep_172 ?_
                          refine lv_aload_n hx hb dX5_sweep_173 rfl (lv_at hl 0 rfl) ?_
                          refine va_get (D := G.1) (ci := 7) (v := .int ((qS2 τ nO r) 40 0 1)) (C := RX5) (T := TX5) (N := 21) hx hb hts (fun w9 h9 => List.mem_cons_of_mem _ (List.mem_append_right _ (h9))) hown hK hP (3 + 18 * o + (0)) (mt_S G Z ho (qS2 τ nO r)) rfl 1 (by decide) (hts (.fieldLink RX5 78 "OrganCensusModel$State" "streets" "I") (List.mem_of_getElem? (i := 8) rfl)) (fun _ h9 => h9) rfl dX5_sweep_174 ?_
                          refine o_irem hx hb dX5_sweep_177 (by rw [hz112.1]; exact nI_ne0 (by omega) (by omega)) ?_
                          refine lv_istore_n (lv' := [(3, .int (o_rem ((nI r) + (nI (nS - 1 - q))) ((qS2 τ nO r) 40 0 1))), (0, .ref (ms G o 0)), (1, .int (nI r)), (2, .int (nI (qWo τ r k))), (4, .int (nI (nS - 1 - q)))]) hx hb dX5_sweep_178 rfl hl (by decide) rfl (fun ls hl => ?_)
                          refine lv_iinc (v := nI (nS - 1 - (q + 1))) (lv' := [(4, .int (nI (nS - 1 - (q + 1)))), (3, .int (o_rem ((nI r) + (nI (nS - 1 - q))) ((qS2 τ nO r) 40 0 1))), (0, .ref (ms G o 0)), (1, .int (nI r)), (2, .int (nI (qWo τ r k)))]) hx hb dX5_sweep_179 hl (k := 4) rfl (by rw [show nS - 1 - q = nS - 1 - (q + 1) + 1 by omega]; exact pk_m1 _) (by decide) rfl (fun ls hl => ?_)
                          refine lv_goto (tgt := 142) hx hb dX5_sweep_182 (by decide) ?_
                          exact ih142 (q + 1) (by omega) _ (by rw [qTo]; first | (rw [if_neg c166]; done) | (rw [if_pos c166]; exact o_rem_n (o_nadd rfl rfl) hz112.1 (by omega) (by omega) (by omega))) _ (rfl) ls (lv_sub hl [2, 3, 4, 1, 0] rfl)
                  exact lp142 (nS - 1) 0 (by omega) _ (rfl) _ (by rw [Nat.sub_zero]; exact o_sub_n hz112.1 (by decide) (by omega)) ls (lv_sub hl [2, 3, 4, 1, 0] rfl)
                · exact o_vretM hx hb hr hlocks hS dX5_sweep_131 (by have hP9 := hP; subst hk4; first | (subst hk142; simp only [qSweep, c9, c91, c119, c128, not_false_eq_true, not_true_eq_false, if_true, if_false]; exact hP9) | (simp only [qSweep, c9, c91, c119, c128, not_false_eq_true, not_true_eq_false, if_true, if_false]; exact hP9))
            · have n91 := (mt (o_nle (a := nO) (b := j) hz86.2.2.1 rfl (by omega) (by omega)).mpr) c91; omega
          | succ d86 ih86 =>
            intro j hk86 x86_3 e86_3 τ86 eτ86 H locs hP hS ls hl
            subst e86_3
            subst eτ86
            have hz86 : qOK (qZc (qS1 τ (qWo τ r k) r) r j) nS nO nH := (hz.of (qS1_kp _ _ _)).of (qZc_kp _ _ _)
            have hj86 : j < nO := by omega
            refine lv_iload_n hx hb dX5_sweep_86 rfl (lv_at hl 3 rfl) ?_
            refine lv_aload_n hx hb dX5_sweep_87 rfl (lv_at hl 0 rfl) ?_
            refine va_get (D := G.1) (ci := 7) (v := .int ((qZc (qS1 τ (qWo τ r k) r) r j) 40 0 2)) (C := RX5) (T := TX5) (N := 21) hx hb hts (fun w9 h9 => List.mem_cons_of_mem _ (List.mem_append_right _ (h9))) hown hK hP (3 + 18 * o + (0)) (mt_S G Z ho (qZc (qS1 τ (qWo τ r k) r) r j)) rfl 7 (by decide) (hts (.fieldLink RX5 81 "OrganCensusModel$State" "organs" "I") (List.mem_of_getElem? (i := 1) rfl)) (fun _ h9 => h9) rfl dX5_sweep_88 ?_
            refine lv_icmp_ge (tgt := 112) hx hb dX5_sweep_91 (by decide) (fun c91 => ?_) (fun c91 => ?_)
            · have n91 := (o_nle (a := nO) (b := j) hz86.2.2.1 rfl (by omega) (by omega)).mp c91; omega
            · have n91 := (mt (o_nle (a := nO) (b := j) hz86.2.2.1 rfl (by omega) (by omega)).mpr) c91
              refine lv_aload_n hx hb dX5_sweep_94 rfl (lv_at hl 0 rfl) ?_
              refine va_get (D := G.1) (ci := 7) (v := .ref (ms G o 14)) (C := RX5) (T := TX5) (N := 21) hx hb hts (fun w9 h9 => List.mem_cons_of_mem _ (List.mem_append_right _ (h9))) hown hK hP (3 + 18 * o + (0)) (mt_S G Z ho (qZc (qS1 τ (qWo τ r k) r) r j)) rfl 16 (by decide) (hts (.fieldLink RX5 55 "OrganCensusModel$State" "complaints" "[I") (List.mem_of_getElem? (i := 2) rfl)) (fun _ h9 => h9) rfl dX5_sweep_95 ?_
              refine lv_bipush (v := 6) hx hb dX5_sweep_98 (by decide) ?_
              refine lv_iload_n hx hb dX5_sweep_100 rfl (lv_at hl 3 rfl) ?_
              refine lv_imul hx hb dX5_sweep_101 ?_
              refine lv_iload_n hx hb dX5_sweep_102 rfl (lv_at hl 1 rfl) ?_
              refine lv_iadd hx hb dX5_sweep_103 ?_
              refine lv_iconst (v := 0) hx hb dX5_sweep_104 (by decide) ?_
              refine o_iast (k := (6 * j) + r) hx hb hK hP (mt_D G Z o _ hI) hS (3 + 18 * o + (14)) 0 (mt_A14 G Z ho (qZc (qS1 τ (qWo τ r k) r) r j)) rfl (o_nadd (o_nmul (by decide) rfl) rfl) (by omega) (by decide) dX5_sweep_105 (fun H locs hP hD hS => ?_)
              have hP : va_P G.1 vwCl (mtw G Z o (su (qZc (qS1 τ (qWo τ r k) r) r j) 14 0 ((6 * j) + r) 0)) H := by rw [← mt_uA14 G Z ho (qZc (qS1 τ (qWo τ r k) r) r j) ((6 * j) + r) 0]; exact hP
              clear hD
              refine lv_iinc (v := nI (j + 1)) (lv' := [(3, .int (nI (j + 1))), (0, .ref (ms G o 0)), (1, .int (nI r)), (2, .int (nI (qWo τ r k)))]) hx hb dX5_sweep_106 hl (k := 3) rfl (nI_1 j) (by decide) rfl (fun ls hl => ?_)
              refine lv_goto (tgt := 86) hx hb dX5_sweep_109 (by decide) ?_
              exact ih86 (j + 1) (by omega) _ (rfl) _ (rfl) _ _ hP hS ls (lv_sub hl [1, 2, 3, 0] rfl)
        exact lp86 (nO) 0 (by omega) _ (rfl) _ (rfl) _ _ hP hS ls (lv_sub hl [1, 2, 3, 0] rfl)
      · have n9 := (mt (o_nle (a := nO) (b := k + 1) hz.2.2.1 rfl (by omega) (by omega)).mpr) c9; omega
    | succ d4 ih4 =>
      intro k hk4 x4_2 e4_2 x4_3 e4_3 ls hl
      subst e4_2
      subst e4_3
      have hj4 : k < nO - 1 := by omega
      have hwo := qWo_le τ r k
      refine lv_iload_n hx hb dX5_sweep_4 rfl (lv_at hl 3 rfl) ?_
      refine lv_aload_n hx hb dX5_sweep_5 rfl (lv_at hl 0 rfl) ?_
      refine va_get (D := G.1) (ci := 7) (v := .int (τ 40 0 2)) (C := RX5) (T := TX5) (N := 21) hx hb hts (fun w9 h9 => List.mem_cons_of_mem _ (List.mem_append_right _ (h9))) hown hK hP (3 + 18 * o + (0)) (mt_S G Z ho τ) rfl 7 (by decide) (hts (.fieldLink RX5 81 "OrganCensusModel$State" "organs" "I") (List.mem_of_getElem? (i := 1) rfl)) (fun _ h9 => h9) rfl dX5_sweep_6 ?_
      refine lv_icmp_ge (tgt := 49) hx hb dX5_sweep_9 (by decide) (fun c9 => ?_) (fun c9 => ?_)
      · have n9 := (o_nle (a := nO) (b := k + 1) hz.2.2.1 rfl (by omega) (by omega)).mp c9; omega
      · have n9 := (mt (o_nle (a := nO) (b := k + 1) hz.2.2.1 rfl (by omega) (by omega)).mpr) c9
        refine lv_aload_n hx hb dX5_sweep_12 rfl (lv_at hl 0 rfl) ?_
        refine va_get (D := G.1) (ci := 7) (v := .ref (ms G o 14)) (C := RX5) (T := TX5) (N := 21) hx hb hts (fun w9 h9 => List.mem_cons_of_mem _ (List.mem_append_right _ (h9))) hown hK hP (3 + 18 * o + (0)) (mt_S G Z ho τ) rfl 16 (by decide) (hts (.fieldLink RX5 55 "OrganCensusModel$State" "complaints" "[I") (List.mem_of_getElem? (i := 2) rfl)) (fun _ h9 => h9) rfl dX5_sweep_13 ?_
        refine lv_bipush (v := 6) hx hb dX5_sweep_16 (by decide) ?_
        refine lv_iload_n hx hb dX5_sweep_18 rfl (lv_at hl 3 rfl) ?_
        refine lv_imul hx hb dX5_sweep_19 ?_
        refine lv_iload_n hx hb dX5_sweep_20 rfl (lv_at hl 1 rfl) ?_
        refine lv_iadd hx hb dX5_sweep_21 ?_
        refine o_iald (k := (6 * (k + 1)) + r) hx hb hK hP (3 + 18 * o + (14)) 0 (mt_A14 G Z ho τ) rfl (o_nadd (o_nmul (by decide) rfl) rfl) (by omega) (by decide) dX5_sweep_22 ?_
        refine lv_aload_n hx hb dX5_sweep_23 rfl (lv_at hl 0 rfl) ?_
        refine va_get (D := G.1) (ci := 7) (v := .ref (ms G o 14)) (C := RX5) (T := TX5) (N := 21) hx hb hts (fun w9 h9 => List.mem_cons_of_mem _ (List.mem_append_right _ (h9))) hown hK hP (3 + 18 * o + (0)) (mt_S G Z ho τ) rfl 16 (by decide) (hts (.fieldLink RX5 55 "OrganCensusModel$State" "complaints" "[I") (List.mem_of_getElem? (i := 2) rfl)) (fun _ h9 => h9) rfl dX5_sweep_24 ?_
        refine lv_bipush (v := 6) hx hb dX5_sweep_27 (by decide) ?_
        refine lv_iload_n hx hb dX5_sweep_29 rfl (lv_at hl 2 rfl) ?_
        refine lv_imul hx hb dX5_sweep_30 ?_
        refine lv_iload_n hx hb dX5_sweep_31 rfl (lv_at hl 1 rfl) ?_
        refine lv_iadd hx hb dX5_sweep_32 ?_
        refine o_iald (k := (6 * (qWo τ r k)) + r) hx hb hK hP (3 + 18 * o + (14)) 0 (mt_A14 G Z ho τ) rfl (o_nadd (o_nmul (by decide) rfl) rfl) (by omega) (by decide) dX5_sweep_33 ?_
        refine lv_icmp_le (tgt := 41) hx hb dX5_sweep_34 (by decide) (fun c34 => ?_) (fun c34 => ?_)
        · refine lv_iload_n hx hb dX5_sweep_41 rfl (lv_at hl 2 rfl) ?_
          refine lv_istore_n (lv' := [(2, .int (nI (qWo τ r k))), (0, .ref (ms G o 0)), (1, .int (nI r)), (3, .int (nI (k + 1)))]) hx hb dX5_sweep_42 rfl hl (by decide) rfl (fun ls hl => ?_)
          refine lv_iinc (v := nI ((k + 1) + 1)) (lv' := [(3, .int (nI ((k + 1) + 1))), (2, .int (nI (qWo τ r k))), (0, .ref (ms G o 0)), (1, .int (nI r))]) hx hb dX5_sweep_43 hl (k := 3) rfl (nI_1 (k + 1)) (by decide) rfl (fun ls hl => ?_)
          refine lv_goto (tgt := 4) hx hb dX5_sweep_46 (by decide) ?_
          exact ih4 (k + 1) (by omega) _ (by simp [qWo, c9, c34]) _ (by simp [qWo, c9, c34]) ls (lv_sub hl [2, 3, 1, 0] rfl)
        · refine lv_iload_n hx hb dX5_sweep_37 rfl (lv_at hl 3 rfl) ?_
          refine lv_goto (tgt := 42) hx hb dX5_sweep_38 (by decide) ?_
          refine lv_istore_n (lv' := [(2, .int (nI (k + 1))), (0, .ref (ms G o 0)), (1, .int (nI r)), (3, .int (nI (k + 1)))]) hx hb dX5_sweep_42 rfl hl (by decide) rfl (fun ls hl => ?_)
          refine lv_iinc (v := nI ((k + 1) + 1)) (lv' := [(3, .int (nI ((k + 1) + 1))), (2, .int (nI (k + 1))), (0, .ref (ms G o 0)), (1, .int (nI r))]) hx hb dX5_sweep_43 hl (k := 3) rfl (nI_1 (k + 1)) (by decide) rfl (fun ls hl => ?_)
          refine lv_goto (tgt := 4) hx hb dX5_sweep_46 (by decide) ?_
          exact ih4 (k + 1) (by omega) _ (by simp [qWo, c9, c34]) _ (by simp [qWo, c9, c34]) ls (lv_sub hl [2, 3, 1, 0] rfl)
  exact lp4 (nO - 1) 0 (by omega) _ (rfl) _ (rfl) ls (lv_sub hl [2, 3, 1, 0] rfl)
set_option maxHeartbeats 4000000 in
set_option maxRecDepth 100000 in
theorem m_X5_pass (l : Launch) (G : oG) (Z : oZ) {o : Nat} (ho : o < 2) (hI : wl_I G.2.1 39) (τ : oT) (nS : Nat) (nO : Nat) (nH : Nat) (hz : qOK τ nS nO nH) (hH : nH + 1 < 1000000) : Met l yX5_pass wsX5_pass ({ frames := 5, cells := 0, slots := 0, locals := 121 } : Room) (va_Pc [.ref (ms G o 0)] (PW G (mtw G Z o τ))) (oQ (some (.int (qOver (qHour τ (Z 2 42 0) nS nO nH) nO - qOver τ nO))) (fun H9 => va_P G.1 vwCl (mtw G Z o (qHour τ (Z 2 42 0) nS nO nH)) H9) (mA G)) 0 0 (mA G) := by
  refine o_body (cc := cX5_pass) (by decide +kernel) rfl (Nat.le_of_ble_eq_true rfl) ?_
  intro p e s m below meth c ls hx hb hml hr hlocks hown hts hP hK hN hl
  have hown : s.vm.findClass RX5 = some m.cls := hown
  have hl : lv_has ls 4 [(0, .ref (ms G o 0))] := hl
  have hS : va_S (mA G) s.heap s.heap [] := va_S.rf
  obtain ⟨hz1, hz2, hz3, hz4, hz5, hz6, hz7, hz8⟩ := id hz
  refine lv_aload_n hx hb dX5_pass_0 rfl (lv_at hl 0 rfl) ?_
  refine lv_aload_n hx hb dX5_pass_1 rfl (lv_at hl 0 rfl) ?_
  refine va_get (D := G.1) (ci := 7) (v := .ref (ms G o 10)) (C := RX5) (T := TX5) (N := 21) hx hb hts (fun w9 h9 => List.mem_cons_of_mem _ (List.mem_append_left _ (List.mem_append_right _ (h9)))) hown hK hP (3 + 18 * o + (0)) (mt_S G Z ho τ) rfl 12 (by decide) (hts (.fieldLink RX5 43 "OrganCensusModel$State" "coins" "[I") (List.mem_of_getElem? (i := 1) rfl)) (fun _ h9 => h9) rfl dX5_pass_2 ?_
  refine o_cVi (q0 := 3 + 18 * o + (0)) (ci := 7) [.ref (ms G o 10)] [] ⟨hx, hb, hml, hown, hts⟩ (m_X5_over l G Z ho τ nS nO nH hz) (cwV 1 hts gX5_pass_X5_over rfl rfl rfl (by decide +kernel) ⟨Nat.le_of_ble_eq_true rfl, Nat.le_of_ble_eq_true rfl⟩) hK hN hP rfl rfl (mt_S G Z ho τ) rfl hl.1 rfl (Nat.le_of_ble_eq_true rfl) dX5_pass_5 ⟨Nat.zero_le _, Nat.zero_le _⟩ ?_
  refine lv_istore_n (lv' := [(1, .int (qOver τ nO)), (0, .ref (ms G o 0))]) hx hb dX5_pass_8 rfl hl (by decide) rfl (fun ls hl => ?_)
  refine lv_iconst (v := 0) hx hb dX5_pass_9 (by decide) ?_
  refine lv_istore_n (lv' := [(2, .int 0), (1, .int (qOver τ nO)), (0, .ref (ms G o 0))]) hx hb dX5_pass_10 rfl hl (by decide) rfl (fun ls hl => ?_)
  have lp11 : ∀ (d11 k : Nat), k + d11 = nO → ∀ x11_2 : Int32, x11_2 = (nI k) → ∀ (τ11 : oT), τ11 = (q1 τ k) → ∀ (H : Heap) (locs : List Loc), va_P G.1 vwCl (mtw G Z o τ11) H → va_S (mA G) s.heap H locs → ∀ ls : Array Slot, lv_has ls 4 [(0, .ref (ms G o 0)), (1, .int (qOver τ nO)), (2, .int x11_2)] → W p l e ({ frames := 5, cells := 0, slots := 0, locals := 121 } : Room) s m ([.ref (ms G o 0)] : List Value).toArray below meth c H locs 0 0 (MQ below (oQ (some (.int (qOver (qHour τ (Z 2 42 0) nS nO nH) nO - qOver τ nO))) (fun H9 => va_P G.1 vwCl (mtw G Z o (qHour τ (Z 2 42 0) nS nO nH)) H9) (mA G)) ([.ref (ms G o 0)] : List Value).toArray s 0 0 (mA G)) (F0 m 11 ls []) := by
    intro d11
    induction d11 with
    | zero =>
      intro k hk11 x11_2 e11_2 τ11 eτ11 H locs hP hS ls hl
      subst e11_2
      subst eτ11
      have hz11 : qOK (q1 τ k) nS nO nH := hz.of (q1_kp _ _)
      have hk11 : k = nO := by omega
      refine lv_iload_n hx hb dX5_pass_11 rfl (lv_at hl 2 rfl) ?_
      refine lv_aload_n hx hb dX5_pass_12 rfl (lv_at hl 0 rfl) ?_
      refine va_get (D := G.1) (ci := 7) (v := .int ((q1 τ k) 40 0 2)) (C := RX5) (T := TX5) (N := 21) hx hb hts (fun w9 h9 => List.mem_cons_of_mem _ (List.mem_append_left _ (List.mem_append_right _ (h9)))) hown hK hP (3 + 18 * o + (0)) (mt_S G Z ho (q1 τ k)) rfl 7 (by decide) (hts (.fieldLink RX5 81 "OrganCensusModel$State" "organs" "I") (List.mem_of_getElem? (i := 2) rfl)) (fun _ h9 => h9) rfl dX5_pass_13 ?_
      refine lv_icmp_ge (tgt := 45) hx hb dX5_pass_16 (by decide) (fun c16 => ?_) (fun c16 => ?_)
      · have n16 := (o_nle (a := nO) (b := k) hz11.2.2.1 rfl (by omega) (by omega)).mp c16
        refine lv_iconst (v := 0) hx hb dX5_pass_45 (by decide) ?_
        refine lv_istore_n (lv' := [(2, .int 0), (0, .ref (ms G o 0)), (1, .int (qOver τ nO))]) hx hb dX5_pass_46 rfl hl (by decide) rfl (fun ls hl => ?_)
        have lp47 : ∀ (d47 k2 : Nat), k2 + d47 = 48 → ∀ x47_2 : Int32, x47_2 = (nI k2) → ∀ (τ47 : oT), τ47 = (q2 (q1 τ k) k2) → ∀ (H : Heap) (locs : List Loc), va_P G.1 vwCl (mtw G Z o τ47) H → va_S (mA G) s.heap H locs → ∀ ls : Array Slot, lv_has ls 4 [(0, .ref (ms G o 0)), (1, .int (qOver τ nO)), (2, .int x47_2)] → W p l e ({ frames := 5, cells := 0, slots := 0, locals := 121 } : Room) s m ([.ref (ms G o 0)] : List Value).toArray below meth c H locs 0 0 (MQ below (oQ (some (.int (qOver (qHour τ (Z 2 42 0) nS nO nH) nO - qOver τ nO))) (fun H9 => va_P G.1 vwCl (mtw G Z o (qHour τ (Z 2 42 0) nS nO nH)) H9) (mA G)) ([.ref (ms G o 0)] : List Value).toArray s 0 0 (mA G)) (F0 m 47 ls []) := by
          intro d47
          induction d47 with
          | zero =>
            intro k2 hk47 x47_2 e47_2 τ47 eτ47 H locs hP hS ls hl
            subst e47_2
            subst eτ47
            have hz47 : qOK (q2 (q1 τ k) k2) nS nO nH := hz11.of (q2_kp _ _)
            have hk47 : k2 = 48 := by omega
            refine lv_iload_n hx hb dX5_pass_47 rfl (lv_at hl 2 rfl) ?_
            refine lv_aload_n hx hb dX5_pass_48 rfl (lv_at hl 0 rfl) ?_
            refine va_get (D := G.1) (ci := 7) (v := .ref (ms G o 17)) (C := RX5) (T := TX5) (N := 21) hx hb hts (fun w9 h9 => List.mem_cons_of_mem _ (List.mem_append_left _ (List.mem_append_right _ (h9)))) hown hK hP (3 + 18 * o + (0)) (mt_S G Z ho (q2 (q1 τ k) k2)) rfl 19 (by decide) (hts (.fieldLink RX5 65 "OrganCensusModel$State" "isNew" "[Z") (List.mem_of_getElem? (i := 5) rfl)) (fun _ h9 => h9) rfl dX5_pass_49 ?_
            refine va_alen (v := 48) hx hb hK hP (3 + 18 * o + (17)) 4 (mt_A17 G Z ho (q2 (q1 τ k) k2)) rfl (show Int32.ofNat 48 = 48 by decide) dX5_pass_52 ?_
            refine lv_icmp_ge (tgt := 69) hx hb dX5_pass_53 (by decide) (fun c53 => ?_) (fun c53 => ?_)
            · have n53 := (o_nle (a := 48) (b := k2) (by decide) rfl (by omega) (by omega)).mp c53
              refine lv_iconst (v := 0) hx hb dX5_pass_69 (by decide) ?_
              refine lv_istore_n (lv' := [(2, .int 0), (0, .ref (ms G o 0)), (1, .int (qOver τ nO))]) hx hb dX5_pass_70 rfl hl (by decide) rfl (fun ls hl => ?_)
              have lp71 : ∀ (d71 k3 : Nat), k3 + d71 = nS → ∀ x71_2 : Int32, x71_2 = (nI k3) → ∀ (τ71 : oT), τ71 = (q3 (q2 (q1 τ k) k2) (Z 2 42 0) nO nH k3) → ∀ (H : Heap) (locs : List Loc), va_P G.1 vwCl (mtw G Z o τ71) H → va_S (mA G) s.heap H locs → ∀ ls : Array Slot, lv_has ls 4 [(0, .ref (ms G o 0)), (1, .int (qOver τ nO)), (2, .int x71_2)] → W p l e ({ frames := 5, cells := 0, slots := 0, locals := 121 } : Room) s m ([.ref (ms G o 0)] : List Value).toArray below meth c H locs 0 0 (MQ below (oQ (some (.int (qOver (qHour τ (Z 2 42 0) nS nO nH) nO - qOver τ nO))) (fun H9 => va_P G.1 vwCl (mtw G Z o (qHour τ (Z 2 42 0) nS nO nH)) H9) (mA G)) ([.ref (ms G o 0)] : List Value).toArray s 0 0 (mA G)) (F0 m 71 ls []) := by
                intro d71
                induction d71 with
                | zero =>
                  intro k3 hk71 x71_2 e71_2 τ71 eτ71 H locs hP hS ls hl
                  subst e71_2
                  subst eτ71
                  have hz71 : qOK (q3 (q2 (q1 τ k) k2) (Z 2 42 0) nO nH k3) nS nO nH := hz47.of (q3_kp _ _ _ _ _)
                  have hk71 : k3 = nS := by omega
                  refine lv_iload_n hx hb dX5_pass_71 rfl (lv_at hl 2 rfl) ?_
                  refine lv_aload_n hx hb dX5_pass_72 rfl (lv_at hl 0 rfl) ?_
                  refine va_get (D := G.1) (ci := 7) (v := .int ((q3 (q2 (q1 τ k) k2) (Z 2 42 0) nO nH k3) 40 0 1)) (C := RX5) (T := TX5) (N := 21) hx hb hts (fun w9 h9 => List.mem_cons_of_mem _ (List.mem_append_left _ (List.mem_append_right _ (h9)))) hown hK hP (3 + 18 * o + (0)) (mt_S G Z ho (q3 (q2 (q1 τ k) k2) (Z 2 42 0) nO nH k3)) rfl 1 (by decide) (hts (.fieldLink RX5 78 "OrganCensusModel$State" "streets" "I") (List.mem_of_getElem? (i := 6) rfl)) (fun _ h9 => h9) rfl dX5_pass_73 ?_
                  refine lv_icmp_ge (tgt := 109) hx hb dX5_pass_76 (by decide) (fun c76 => ?_) (fun c76 => ?_)
                  · have n76 := (o_nle (a := nS) (b := k3) hz71.1 rfl (by omega) (by omega)).mp c76
                    refine lv_iconst (v := 0) hx hb dX5_pass_109 (by decide) ?_
                    refine lv_istore_n (lv' := [(2, .int 0), (0, .ref (ms G o 0)), (1, .int (qOver τ nO))]) hx hb dX5_pass_110 rfl hl (by decide) rfl (fun ls hl => ?_)
                    have lp111 : ∀ (d111 k5 : Nat), k5 + d111 = nS → ∀ x111_2 : Int32, x111_2 = (nI k5) → ∀ (τ111 : oT), τ111 = (q4 (q3 (q2 (q1 τ k) k2) (Z 2 42 0) nO nH k3) nO k5) → ∀ (H : Heap) (locs : List Loc), va_P G.1 vwCl (mtw G Z o τ111) H → va_S (mA G) s.heap H locs → ∀ ls : Array Slot, lv_has ls 4 [(0, .ref (ms G o 0)), (1, .int (qOver τ nO)), (2, .int x111_2)] → W p l e ({ frames := 5, cells := 0, slots := 0, locals := 121 } : Room) s m ([.ref (ms G o 0)] : List Value).toArray below meth c H locs 0 0 (MQ below (oQ (some (.int (qOver (qHour τ (Z 2 42 0) nS nO nH) nO - qOver τ nO))) (fun H9 => va_P G.1 vwCl (mtw G Z o (qHour τ (Z 2 42 0) nS nO nH)) H9) (mA G)) ([.ref (ms G o 0)] : List Value).toArray s 0 0 (mA G)) (F0 m 111 ls []) := by
                      intro d111
                      induction d111 with
                      | zero =>
                        intro k5 hk111 x111_2 e111_2 τ111 eτ111 H locs hP hS ls hl
                        subst e111_2
                        subst eτ111
                        have hz111 : qOK (q4 (q3 (q2 (q1 τ k) k2) (Z 2 42 0) nO nH k3) nO k5) nS nO nH := hz71.of (q4_kp _ _ _)
                        have hk111 : k5 = nS := by omega
                        refine lv_iload_n hx hb dX5_pass_111 rfl (lv_at hl 2 rfl) ?_
                        refine lv_aload_n hx hb dX5_pass_112 rfl (lv_at hl 0 rfl) ?_
                        refine va_get (D := G.1) (ci := 7) (v := .int ((q4 (q3 (q2 (q1 τ k) k2) (Z 2 42 0) nO nH k3) nO k5) 40 0 1)) (C := RX5) (T := TX5) (N := 21) hx hb hts (fun w9 h9 => List.mem_cons_of_mem _ (List.mem_append_left _ (List.mem_append_right _ (h9)))) hown hK hP (3 + 18 * o + (0)) (mt_S G Z ho (q4 (q3 (q2 (q1 τ k) k2) (Z 2 42 0) nO nH k3) nO k5)) rfl 1 (by decide) (hts (.fieldLink RX5 78 "OrganCensusModel$State" "streets" "I") (List.mem_of_getElem? (i := 6) rfl)) (fun _ h9 => h9) rfl dX5_pass_113 ?_
                        refine lv_icmp_ge (tgt := 145) hx hb dX5_pass_116 (by decide) (fun c116 => ?_) (fun c116 => ?_)
                        · have n116 := (o_nle (a := nS) (b := k5) hz111.1 rfl (by omega) (by omega)).mp c116
                          refine lv_iconst (v := 0) hx hb dX5_pass_145 (by decide) ?_
                          refine lv_istore_n (lv' := [(2, .int 0), (0, .ref (ms G o 0)), (1, .int (qOver τ nO))]) hx hb dX5_pass_146 rfl hl (by decide) rfl (fun ls hl => ?_)
                          have lp147 : ∀ (d147 k6 : Nat), k6 + d147 = nO → ∀ x147_2 : Int32, x147_2 = (nI k6) → ∀ (τ147 : oT), τ147 = (q5 (q4 (q3 (q2 (q1 τ k) k2) (Z 2 42 0) nO nH k3) nO k5) k6) → ∀ (H : Heap) (locs : List Loc), va_P G.1 vwCl (mtw G Z o τ147) H → va_S (mA G) s.heap H locs → ∀ ls : Array Slot, lv_has ls 4 [(0, .ref (ms G o 0)), (1, .int (qOver τ nO)), (2, .int x147_2)] → W p l e ({ frames := 5, cells := 0, slots := 0, locals := 121 } : Room) s m ([.ref (ms G o 0)] : List Value).toArray below meth c H locs 0 0 (MQ below (oQ (some (.int (qOver (qHour τ (Z 2 42 0) nS nO nH) nO - qOver τ nO))) (fun H9 => va_P G.1 vwCl (mtw G Z o (qHour τ (Z 2 42 0) nS nO nH)) H9) (mA G)) ([.ref (ms G o 0)] : List Value).toArray s 0 0 (mA G)) (F0 m 147 ls []) := by
                            intro d147
                            induction d147 with
                            | zero =>
                              intro k6 hk147 x147_2 e147_2 τ147 eτ147 H locs hP hS ls hl
                              subst e147_2
                              subst eτ147
                              have hz147 : qOK (q5 (q4 (q3 (q2 (q1 τ k) k2) (Z 2 42 0) nO nH k3) nO k5) k6) nS nO nH := q5_ok hz111 k6 (by omega)
                              have hk147 : k6 = nO := by omega
                              refine lv_iload_n hx hb dX5_pass_147 rfl (lv_at hl 2 rfl) ?_
                              refine lv_aload_n hx hb dX5_pass_148 rfl (lv_at hl 0 rfl) ?_
                              refine va_get (D := G.1) (ci := 7) (v := .int ((q5 (q4 (q3 (q2 (q1 τ k) k2) (Z 2 42 0) nO nH k3) nO k5) k6) 40 0 2)) (C := RX5) (T := TX5) (N := 21) hx hb hts (fun w9 h9 => List.mem_cons_of_mem _ (List.mem_append_left _ (List.mem_append_right _ (h9)))) hown hK hP (3 + 18 * o + (0)) (mt_S G Z ho (q5 (q4 (q3 (q2 (q1 τ k) k2) (Z 2 42 0) nO nH k3) nO k5) k6)) rfl 7 (by decide) (hts (.fieldLink RX5 81 "OrganCensusModel$State" "organs" "I") (List.mem_of_getElem? (i := 2) rfl)) (fun _ h9 => h9) rfl dX5_pass_149 ?_
                              refine lv_icmp_ge (tgt := 223) hx hb dX5_pass_152 (by decide) (fun c152 => ?_) (fun c152 => ?_)
                              · have n152 := (o_nle (a := nO) (b := k6) hz147.2.2.1 rfl (by omega) (by omega)).mp c152
                                refine lv_iconst (v := 0) hx hb dX5_pass_223 (by decide) ?_
                                refine lv_istore_n (lv' := [(2, .int 0), (0, .ref (ms G o 0)), (1, .int (qOver τ nO))]) hx hb dX5_pass_224 rfl hl (by decide) rfl (fun ls hl => ?_)
                                have lp225 : ∀ (d225 k7 : Nat), k7 + d225 = nS → ∀ x225_2 : Int32, x225_2 = (nI k7) → ∀ (τ225 : oT), τ225 = (q6 (q5 (q4 (q3 (q2 (q1 τ k) k2) (Z 2 42 0) nO nH k3) nO k5) k6) nS nO k7) → ∀ (H : Heap) (locs : List Loc), va_P G.1 vwCl (mtw G Z o τ225) H → va_S (mA G) s.heap H locs → ∀ ls : Array Slot, lv_has ls 4 [(0, .ref (ms G o 0)), (1, .int (qOver τ nO)), (2, .int x225_2)] → W p l e ({ frames := 5, cells := 0, slots := 0, locals := 121 } : Room) s m ([.ref (ms G o 0)] : List Value).toArray below meth c H locs 0 0 (MQ below (oQ (some (.int (qOver (qHour τ (Z 2 42 0) nS nO nH) nO - qOver τ nO))) (fun H9 => va_P G.1 vwCl (mtw G Z o (qHour τ (Z 2 42 0) nS nO nH)) H9) (mA G)) ([.ref (ms G o 0)] : List Value).toArray s 0 0 (mA G)) (F0 m 225 ls []) := by
                                  intro d225
                                  induction d225 with
                                  | zero =>
                                    intro k7 hk225 x225_2 e225_2 τ225 eτ225 H locs hP hS ls hl
                                    subst e225_2
                                    subst eτ225
                                    have hz225 : qOK (q6 (q5 (q4 (q3 (q2 (q1 τ k) k2) (Z 2 42 0) nO nH k3) nO k5) k6) nS nO k7) nS nO nH := hz147.of (q6_kp _ _ _ _)
                                    have hk225 : k7 = nS := by omega
                                    refine lv_iload_n hx hb dX5_pass_225 rfl (lv_at hl 2 rfl) ?_
                                    refine lv_aload_n hx hb dX5_pass_226 rfl (lv_at hl 0 rfl) ?_
                                    refine va_get (D := G.1) (ci := 7) (v := .int ((q6 (q5 (q4 (q3 (q2 (q1 τ k) k2) (Z 2 42 0) nO nH k3) nO k5) k6) nS nO k7) 40 0 1)) (C := RX5) (T := TX5) (N := 21) hx hb hts (fun w9 h9 => List.mem_cons_of_mem _ (List.mem_append_left _ (List.mem_append_right _ (h9)))) hown hK hP (3 + 18 * o + (0)) (mt_S G Z ho (q6 (q5 (q4 (q3 (q2 (q1 τ k) k2) (Z 2 42 0) nO nH k3) nO k5) k6) nS nO k7)) rfl 1 (by decide) (hts (.fieldLink RX5 78 "OrganCensusModel$State" "streets" "I") (List.mem_of_getElem? (i := 6) rfl)) (fun _ h9 => h9) rfl dX5_pass_227 ?_
                                    refine lv_icmp_ge (tgt := 255) hx hb dX5_pass_230 (by decide) (fun c230 => ?_) (fun c230 => ?_)
                                    · have n230 := (o_nle (a := nS) (b := k7) hz225.1 rfl (by omega) (by omega)).mp c230
                                      refine lv_iconst (v := 0) hx hb dX5_pass_255 (by decide) ?_
                                      refine lv_istore_n (lv' := [(2, .int 0), (0, .ref (ms G o 0)), (1, .int (qOver τ nO))]) hx hb dX5_pass_256 rfl hl (by decide) rfl (fun ls hl => ?_)
                                      have lp257 : ∀ (d257 k8 : Nat), k8 + d257 = nO → ∀ x257_2 : Int32, x257_2 = (nI k8) → ∀ (τ257 : oT), τ257 = (q7 (q6 (q5 (q4 (q3 (q2 (q1 τ k) k2) (Z 2 42 0) nO nH k3) nO k5) k6) nS nO k7) k8) → ∀ (H : Heap) (locs : List Loc), va_P G.1 vwCl (mtw G Z o τ257) H → va_S (mA G) s.heap H locs → ∀ ls : Array Slot, lv_has ls 4 [(0, .ref (ms G o 0)), (1, .int (qOver τ nO)), (2, .int x257_2)] → W p l e ({ frames := 5, cells := 0, slots := 0, locals := 121 } : Room) s m ([.ref (ms G o 0)] : List Value).toArray below meth c H locs 0 0 (MQ below (oQ (some (.int (qOver (qHour τ (Z 2 42 0) nS nO nH) nO - qOver τ nO))) (fun H9 => va_P G.1 vwCl (mtw G Z o (qHour τ (Z 2 42 0) nS nO nH)) H9) (mA G)) ([.ref (ms G o 0)] : List Value).toArray s 0 0 (mA G)) (F0 m 257 ls []) := by
                                        intro d257
                                        induction d257 with
                                        | zero =>
                                          intro k8 hk257 x257_2 e257_2 τ257 eτ257 H locs hP hS ls hl
                                          subst e257_2
                                          subst eτ257
                                          have hz257 : qOK (q7 (q6 (q5 (q4 (q3 (q2 (q1 τ k) k2) (Z 2 42 0) nO nH k3) nO k5) k6) nS nO k7) k8) nS nO nH := hz225.of (q7_kp _ _)
                                          have hk257 : k8 = nO := by omega
                                          refine lv_iload_n hx hb dX5_pass_257 rfl (lv_at hl 2 rfl) ?_
                                          refine lv_aload_n hx hb dX5_pass_258 rfl (lv_at hl 0 rfl) ?_
                                          refine va_get (D := G.1) (ci := 7) (v := .int ((q7 (q6 (q5 (q4 (q3 (q2 (q1 τ k) k2) (Z 2 42 0) nO nH k3) nO k5) k6) nS nO k7) k8) 40 0 2)) (C := RX5) (T := TX5) (N := 21) hx hb hts (fun w9 h9 => List.mem_cons_of_mem _ (List.mem_append_left _ (List.mem_append_right _ (h9)))) hown hK hP (3 + 18 * o + (0)) (mt_S G Z ho (q7 (q6 (q5 (q4 (q3 (q2 (q1 τ k) k2) (Z 2 42 0) nO nH k3) nO k5) k6) nS nO k7) k8)) rfl 7 (by decide) (hts (.fieldLink RX5 81 "OrganCensusModel$State" "organs" "I") (List.mem_of_getElem? (i := 2) rfl)) (fun _ h9 => h9) rfl dX5_pass_259 ?_
                                          refine lv_icmp_ge (tgt := 290) hx hb dX5_pass_262 (by decide) (fun c262 => ?_) (fun c262 => ?_)
                                          · have n262 := (o_nle (a := nO) (b := k8) hz257.2.2.1 rfl (by omega) (by omega)).mp c262
                                            refine lv_iconst (v := 0) hx hb dX5_pass_290 (by decide) ?_
                                            refine lv_istore_n (lv' := [(2, .int 0), (0, .ref (ms G o 0)), (1, .int (qOver τ nO))]) hx hb dX5_pass_291 rfl hl (by decide) rfl (fun ls hl => ?_)
                                            have lp292 : ∀ (d292 k9 : Nat), k9 + d292 = 48 → ∀ x292_2 : Int32, x292_2 = (nI k9) → ∀ (τ292 : oT), τ292 = (q8 (q7 (q6 (q5 (q4 (q3 (q2 (q1 τ k) k2) (Z 2 42 0) nO nH k3) nO k5) k6) nS nO k7) k8) k9) → ∀ (H : Heap) (locs : List Loc), va_P G.1 vwCl (mtw G Z o τ292) H → va_S (mA G) s.heap H locs → ∀ ls : Array Slot, lv_has ls 4 [(0, .ref (ms G o 0)), (1, .int (qOver τ nO)), (2, .int x292_2)] → W p l e ({ frames := 5, cells := 0, slots := 0, locals := 121 } : Room) s m ([.ref (ms G o 0)] : List Value).toArray below meth c H locs 0 0 (MQ below (oQ (some (.int (qOver (qHour τ (Z 2 42 0) nS nO nH) nO - qOver τ nO))) (fun H9 => va_P G.1 vwCl (mtw G Z o (qHour τ (Z 2 42 0) nS nO nH)) H9) (mA G)) ([.ref (ms G o 0)] : List Value).toArray s 0 0 (mA G)) (F0 m 292 ls []) := by
                                              intro d292
                                              induction d292 with
                                              | zero =>
                                                intro k9 hk292 x292_2 e292_2 τ292 eτ292 H locs hP hS ls hl
                                                subst e292_2
                                                subst eτ292
                                                have hz292 : qOK (q8 (q7 (q6 (q5 (q4 (q3 (q2 (q1 τ k) k2) (Z 2 42 0) nO nH k3) nO k5) k6) nS nO k7) k8) k9) nS nO nH := hz257.of (q8_kp _ _)
                                                have hk292 : k9 = 48 := by omega
                                                refine lv_iload_n hx hb dX5_pass_292 rfl (lv_at hl 2 rfl) ?_
                                                refine lv_aload_n hx hb dX5_pass_293 rfl (lv_at hl 0 rfl) ?_
                                                refine va_get (D := G.1) (ci := 7) (v := .ref (ms G o 17)) (C := RX5) (T := TX5) (N := 21) hx hb hts (fun w9 h9 => List.mem_cons_of_mem _ (List.mem_append_left _ (List.mem_append_right _ (h9)))) hown hK hP (3 + 18 * o + (0)) (mt_S G Z ho (q8 (q7 (q6 (q5 (q4 (q3 (q2 (q1 τ k) k2) (Z 2 42 0) nO nH k3) nO k5) k6) nS nO k7) k8) k9)) rfl 19 (by decide) (hts (.fieldLink RX5 65 "OrganCensusModel$State" "isNew" "[Z") (List.mem_of_getElem? (i := 5) rfl)) (fun _ h9 => h9) rfl dX5_pass_294 ?_
                                                refine va_alen (v := 48) hx hb hK hP (3 + 18 * o + (17)) 4 (mt_A17 G Z ho (q8 (q7 (q6 (q5 (q4 (q3 (q2 (q1 τ k) k2) (Z 2 42 0) nO nH k3) nO k5) k6) nS nO k7) k8) k9)) rfl (show Int32.ofNat 48 = 48 by decide) dX5_pass_297 ?_
                                                refine lv_icmp_ge (tgt := 334) hx hb dX5_pass_298 (by decide) (fun c298 => ?_) (fun c298 => ?_)
                                                · have n298 := (o_nle (a := 48) (b := k9) (by decide) rfl (by omega) (by omega)).mp c298
                                                  refine lv_aload_n hx hb dX5_pass_334 rfl (lv_at hl 0 rfl) ?_
                                                  refine lv_dup hx hb dX5_pass_335 rfl ?_
                                                  refine va_get (D := G.1) (ci := 7) (v := .int ((q8 (q7 (q6 (q5 (q4 (q3 (q2 (q1 τ k) k2) (Z 2 42 0) nO nH k3) nO k5) k6) nS nO k7) k8) k9) 40 0 0)) (C := RX5) (T := TX5) (N := 21) hx hb hts (fun w9 h9 => List.mem_cons_of_mem _ (List.mem_append_left _ (List.mem_append_right _ (h9)))) hown hK hP (3 + 18 * o + (0)) (mt_S G Z ho (q8 (q7 (q6 (q5 (q4 (q3 (q2 (q1 τ k) k2) (Z 2 42 0) nO nH k3) nO k5) k6) nS nO k7) k8) k9)) rfl 0 (by decide) (hts (.fieldLink RX5 74 "OrganCensusModel$State" "hour" "I") (List.mem_of_getElem? (i := 18) rfl)) (fun _ h9 => h9) rfl dX5_pass_336 ?_
                                                  refine lv_iconst (v := 1) hx hb dX5_pass_339 (by decide) ?_
                                                  refine lv_iadd hx hb dX5_pass_340 ?_
                                                  refine va_put (D := G.1) (ci := 7) (v := .int (((q8 (q7 (q6 (q5 (q4 (q3 (q2 (q1 τ k) k2) (Z 2 42 0) nO nH k3) nO k5) k6) nS nO k7) k8) k9) 40 0 0) + 1)) (ty := .int) (C := RX5) (T := TX5) (N := 21) hx hb hts (fun w9 h9 => List.mem_cons_of_mem _ (List.mem_append_left _ (List.mem_append_right _ (h9)))) tyX5 tyX5_ok nmX5 hown hK hP (mt_D G Z o _ hI) hS (3 + 18 * o + (0)) (mt_S G Z ho (q8 (q7 (q6 (q5 (q4 (q3 (q2 (q1 τ k) k2) (Z 2 42 0) nO nH k3) nO k5) k6) nS nO k7) k8) k9)) rfl 0 (by decide) (hts (.fieldLink RX5 74 "OrganCensusModel$State" "hour" "I") (List.mem_of_getElem? (i := 18) rfl)) (fun _ h9 => h9) rfl (by decide +kernel) rfl rfl (Nat.le_of_ble_eq_true rfl) dX5_pass_341 (fun H locs hP hD hS => ?_)
                                                  have hP : va_P G.1 vwCl (mtw G Z o (su (q8 (q7 (q6 (q5 (q4 (q3 (q2 (q1 τ k) k2) (Z 2 42 0) nO nH k3) nO k5) k6) nS nO k7) k8) k9) 40 0 0 (((q8 (q7 (q6 (q5 (q4 (q3 (q2 (q1 τ k) k2) (Z 2 42 0) nO nH k3) nO k5) k6) nS nO k7) k8) k9) 40 0 0) + 1))) H := by rw [← mt_uS0 G Z ho (q8 (q7 (q6 (q5 (q4 (q3 (q2 (q1 τ k) k2) (Z 2 42 0) nO nH k3) nO k5) k6) nS nO k7) k8) k9) (((q8 (q7 (q6 (q5 (q4 (q3 (q2 (q1 τ k) k2) (Z 2 42 0) nO nH k3) nO k5) k6) nS nO k7) k8) k9) 40 0 0) + 1)]; exact hP
                                                  clear hD
                                                  have hz341 : qOK (su (q8 (q7 (q6 (q5 (q4 (q3 (q2 (q1 τ k) k2) (Z 2 42 0) nO nH k3) nO k5) k6) nS nO k7) k8) k9) 40 0 0 (((q8 (q7 (q6 (q5 (q4 (q3 (q2 (q1 τ k) k2) (Z 2 42 0) nO nH k3) nO k5) k6) nS nO k7) k8) k9) 40 0 0) + 1)) nS nO (nH + 1) := qHour_ok0 hz292 hH
                                                  refine lv_aload_n hx hb dX5_pass_344 rfl (lv_at hl 0 rfl) ?_
                                                  refine lv_aload_n hx hb dX5_pass_345 rfl (lv_at hl 0 rfl) ?_
                                                  refine va_get (D := G.1) (ci := 7) (v := .ref (ms G o 10)) (C := RX5) (T := TX5) (N := 21) hx hb hts (fun w9 h9 => List.mem_cons_of_mem _ (List.mem_append_left _ (List.mem_append_right _ (h9)))) hown hK hP (3 + 18 * o + (0)) (mt_S G Z ho (su (q8 (q7 (q6 (q5 (q4 (q3 (q2 (q1 τ k) k2) (Z 2 42 0) nO nH k3) nO k5) k6) nS nO k7) k8) k9) 40 0 0 (((q8 (q7 (q6 (q5 (q4 (q3 (q2 (q1 τ k) k2) (Z 2 42 0) nO nH k3) nO k5) k6) nS nO k7) k8) k9) 40 0 0) + 1))) rfl 12 (by decide) (hts (.fieldLink RX5 43 "OrganCensusModel$State" "coins" "[I") (List.mem_of_getElem? (i := 1) rfl)) (fun _ h9 => h9) rfl dX5_pass_346 ?_
                                                  refine o_cVi (q0 := 3 + 18 * o + (0)) (ci := 7) [.ref (ms G o 10)] [] ⟨hx, hb, hml, hown, hts⟩ (m_X5_over l G Z ho (su (q8 (q7 (q6 (q5 (q4 (q3 (q2 (q1 τ k) k2) (Z 2 42 0) nO nH k3) nO k5) k6) nS nO k7) k8) k9) 40 0 0 (((q8 (q7 (q6 (q5 (q4 (q3 (q2 (q1 τ k) k2) (Z 2 42 0) nO nH k3) nO k5) k6) nS nO k7) k8) k9) 40 0 0) + 1)) nS nO (nH + 1) hz341) (cwV 1 hts gX5_pass_X5_over rfl rfl rfl (by decide +kernel) ⟨Nat.le_of_ble_eq_true rfl, Nat.le_of_ble_eq_true rfl⟩) hK hN hP rfl rfl (mt_S G Z ho (su (q8 (q7 (q6 (q5 (q4 (q3 (q2 (q1 τ k) k2) (Z 2 42 0) nO nH k3) nO k5) k6) nS nO k7) k8) k9) 40 0 0 (((q8 (q7 (q6 (q5 (q4 (q3 (q2 (q1 τ k) k2) (Z 2 42 0) nO nH k3) nO k5) k6) nS nO k7) k8) k9) 40 0 0) + 1))) rfl hl.1 rfl (Nat.le_of_ble_eq_true rfl) dX5_pass_349 ⟨Nat.zero_le _, Nat.zero_le _⟩ ?_
                                                  refine lv_iload_n hx hb dX5_pass_352 rfl (lv_at hl 1 rfl) ?_
                                                  refine lv_isub hx hb dX5_pass_353 ?_
                                                  exact o_iretM hx hb hr hlocks hS dX5_pass_354 (by subst hk11; subst hk47; subst hk71; subst hk111; subst hk147; subst hk225; subst hk257; subst hk292; exact hP) (by subst hk11; subst hk47; subst hk71; subst hk111; subst hk147; subst hk225; subst hk257; subst hk292; rfl)
                                                · have n298 := (mt (o_nle (a := 48) (b := k9) (by decide) rfl (by omega) (by omega)).mpr) c298; omega
                                              | succ d292 ih292 =>
                                                intro k9 hk292 x292_2 e292_2 τ292 eτ292 H locs hP hS ls hl
                                                subst e292_2
                                                subst eτ292
                                                have hz292 : qOK (q8 (q7 (q6 (q5 (q4 (q3 (q2 (q1 τ k) k2) (Z 2 42 0) nO nH k3) nO k5) k6) nS nO k7) k8) k9) nS nO nH := hz257.of (q8_kp _ _)
                                                have hj292 : k9 < 48 := by omega
                                                refine lv_iload_n hx hb dX5_pass_292 rfl (lv_at hl 2 rfl) ?_
                                                refine lv_aload_n hx hb dX5_pass_293 rfl (lv_at hl 0 rfl) ?_
                                                refine va_get (D := G.1) (ci := 7) (v := .ref (ms G o 17)) (C := RX5) (T := TX5) (N := 21) hx hb hts (fun w9 h9 => List.mem_cons_of_mem _ (List.mem_append_left _ (List.mem_append_right _ (h9)))) hown hK hP (3 + 18 * o + (0)) (mt_S G Z ho (q8 (q7 (q6 (q5 (q4 (q3 (q2 (q1 τ k) k2) (Z 2 42 0) nO nH k3) nO k5) k6) nS nO k7) k8) k9)) rfl 19 (by decide) (hts (.fieldLink RX5 65 "OrganCensusModel$State" "isNew" "[Z") (List.mem_of_getElem? (i := 5) rfl)) (fun _ h9 => h9) rfl dX5_pass_294 ?_
                                                refine va_alen (v := 48) hx hb hK hP (3 + 18 * o + (17)) 4 (mt_A17 G Z ho (q8 (q7 (q6 (q5 (q4 (q3 (q2 (q1 τ k) k2) (Z 2 42 0) nO nH k3) nO k5) k6) nS nO k7) k8) k9)) rfl (show Int32.ofNat 48 = 48 by decide) dX5_pass_297 ?_
                                                refine lv_icmp_ge (tgt := 334) hx hb dX5_pass_298 (by decide) (fun c298 => ?_) (fun c298 => ?_)
                                                · have n298 := (o_nle (a := 48) (b := k9) (by decide) rfl (by omega) (by omega)).mp c298; omega
                                                · have n298 := (mt (o_nle (a := 48) (b := k9) (by decide) rfl (by omega) (by omega)).mpr) c298
                                                  refine lv_aload_n hx hb dX5_pass_301 rfl (lv_at hl 0 rfl) ?_
                                                  refine va_get (D := G.1) (ci := 7) (v := .ref (ms G o 17)) (C := RX5) (T := TX5) (N := 21) hx hb hts (fun w9 h9 => List.mem_cons_of_mem _ (List.mem_append_left _ (List.mem_append_right _ (h9)))) hown hK hP (3 + 18 * o + (0)) (mt_S G Z ho (q8 (q7 (q6 (q5 (q4 (q3 (q2 (q1 τ k) k2) (Z 2 42 0) nO nH k3) nO k5) k6) nS nO k7) k8) k9)) rfl 19 (by decide) (hts (.fieldLink RX5 65 "OrganCensusModel$State" "isNew" "[Z") (List.mem_of_getElem? (i := 5) rfl)) (fun _ h9 => h9) rfl dX5_pass_302 ?_
                                                  refine lv_iload_n hx hb dX5_pass_305 rfl (lv_at hl 2 rfl) ?_
                                                  refine o_zald (k := k9) hx hb hK hP (3 + 18 * o + (17)) 4 (mt_A17 G Z ho (q8 (q7 (q6 (q5 (q4 (q3 (q2 (q1 τ k) k2) (Z 2 42 0) nO nH k3) nO k5) k6) nS nO k7) k8) k9)) rfl rfl (by omega) (by decide) dX5_pass_306 ?_
                                                  refine lv_if_ne (tgt := 328) hx hb dX5_pass_307 (by decide) (fun c307 => ?_) (fun c307 => ?_)
                                                  · refine lv_iinc (v := nI (k9 + 1)) (lv' := [(2, .int (nI (k9 + 1))), (0, .ref (ms G o 0)), (1, .int (qOver τ nO))]) hx hb dX5_pass_328 hl (k := 2) rfl (nI_1 k9) (by decide) rfl (fun ls hl => ?_)
                                                    refine lv_goto (tgt := 292) hx hb dX5_pass_331 (by decide) ?_
                                                    exact ih292 (k9 + 1) (by omega) _ (rfl) _ (by simp only [q8, c16, c53, c76, c116, c152, c230, c262, c298, c307, not_true_eq_false, not_false_eq_true, if_true, if_false]; try rfl) _ _ hP hS ls (lv_sub hl [1, 2, 0] rfl)
                                                  · refine lv_aload_n hx hb dX5_pass_310 rfl (lv_at hl 0 rfl) ?_
                                                    refine va_get (D := G.1) (ci := 7) (v := .ref (ms G o 15)) (C := RX5) (T := TX5) (N := 21) hx hb hts (fun w9 h9 => List.mem_cons_of_mem _ (List.mem_append_left _ (List.mem_append_right _ (h9)))) hown hK hP (3 + 18 * o + (0)) (mt_S G Z ho (q8 (q7 (q6 (q5 (q4 (q3 (q2 (q1 τ k) k2) (Z 2 42 0) nO nH k3) nO k5) k6) nS nO k7) k8) k9)) rfl 17 (by decide) (hts (.fieldLink RX5 58 "OrganCensusModel$State" "banished" "[I") (List.mem_of_getElem? (i := 14) rfl)) (fun _ h9 => h9) rfl dX5_pass_311 ?_
                                                    refine lv_iload_n hx hb dX5_pass_314 rfl (lv_at hl 2 rfl) ?_
                                                    refine lv_iconst (v := 0) hx hb dX5_pass_315 (by decide) ?_
                                                    refine lv_aload_n hx hb dX5_pass_316 rfl (lv_at hl 0 rfl) ?_
                                                    refine va_get (D := G.1) (ci := 7) (v := .ref (ms G o 15)) (C := RX5) (T := TX5) (N := 21) hx hb hts (fun w9 h9 => List.mem_cons_of_mem _ (List.mem_append_left _ (List.mem_append_right _ (h9)))) hown hK hP (3 + 18 * o + (0)) (mt_S G Z ho (q8 (q7 (q6 (q5 (q4 (q3 (q2 (q1 τ k) k2) (Z 2 42 0) nO nH k3) nO k5) k6) nS nO k7) k8) k9)) rfl 17 (by decide) (hts (.fieldLink RX5 58 "OrganCensusModel$State" "banished" "[I") (List.mem_of_getElem? (i := 14) rfl)) (fun _ h9 => h9) rfl dX5_pass_317 ?_
                                                    refine lv_iload_n hx hb dX5_pass_320 rfl (lv_at hl 2 rfl) ?_
                                                    refine o_iald (k := k9) hx hb hK hP (3 + 18 * o + (15)) 0 (mt_A15 G Z ho (q8 (q7 (q6 (q5 (q4 (q3 (q2 (q1 τ k) k2) (Z 2 42 0) nO nH k3) nO k5) k6) nS nO k7) k8) k9)) rfl rfl (by omega) (by decide) dX5_pass_321 ?_
                                                    refine lv_iconst (v := 1) hx hb dX5_pass_322 (by decide) ?_
                                                    refine lv_isub hx hb dX5_pass_323 ?_
                                                    refine va_mmax (rest := [.int (nI k9), .ref (ms G o 15)]) hx hb (hml.trans hl.1.symm) hown (hts (.methodLink RX5 97 Lib.Math.max.name) (List.mem_of_getElem? (i := 15) rfl)) (hts (.static Lib.Math.max.name) (List.mem_of_getElem? (i := 16) rfl)) (hts (.initialized "java/lang/Math") (List.mem_of_getElem? (i := 11) rfl)) (hts (.code Lib.Math.max.name Lib.Math.max.code 2 (some .int)) (List.mem_of_getElem? (i := 17) rfl)) (Nat.le_of_ble_eq_true rfl) (Nat.le_of_ble_eq_true rfl) (Nat.zero_le _) (Nat.zero_le _) dX5_pass_324 ?_
                                                    change W _ _ _ _ _ _ _ _ _ _ _ _ _ _ _ (F0 m 327 ls (.int (o_max 0 (((q8 (q7 (q6 (q5 (q4 (q3 (q2 (q1 τ k) k2) (Z 2 42 0) nO nH k3) nO k5) k6) nS nO k7) k8) k9) 15 0 k9) - 1)) :: _))
                                                    refine o_iast (k := k9) hx hb hK hP (mt_D G Z o _ hI) hS (3 + 18 * o + (15)) 0 (mt_A15 G Z ho (q8 (q7 (q6 (q5 (q4 (q3 (q2 (q1 τ k) k2) (Z 2 42 0) nO nH k3) nO k5) k6) nS nO k7) k8) k9)) rfl rfl (by omega) (by decide) dX5_pass_327 (fun H locs hP hD hS => ?_)
                                                    have hP : va_P G.1 vwCl (mtw G Z o (su (q8 (q7 (q6 (q5 (q4 (q3 (q2 (q1 τ k) k2) (Z 2 42 0) nO nH k3) nO k5) k6) nS nO k7) k8) k9) 15 0 k9 (o_max 0 (((q8 (q7 (q6 (q5 (q4 (q3 (q2 (q1 τ k) k2) (Z 2 42 0) nO nH k3) nO k5) k6) nS nO k7) k8) k9) 15 0 k9) - 1)))) H := by rw [← mt_uA15 G Z ho (q8 (q7 (q6 (q5 (q4 (q3 (q2 (q1 τ k) k2) (Z 2 42 0) nO nH k3) nO k5) k6) nS nO k7) k8) k9) k9 (o_max 0 (((q8 (q7 (q6 (q5 (q4 (q3 (q2 (q1 τ k) k2) (Z 2 42 0) nO nH k3) nO k5) k6) nS nO k7) k8) k9) 15 0 k9) - 1))]; exact hP
                                                    clear hD
                                                    refine lv_iinc (v := nI (k9 + 1)) (lv' := [(2, .int (nI (k9 + 1))), (0, .ref (ms G o 0)), (1, .int (qOver τ nO))]) hx hb dX5_pass_328 hl (k := 2) rfl (nI_1 k9) (by decide) rfl (fun ls hl => ?_)
                                                    refine lv_goto (tgt := 292) hx hb dX5_pass_331 (by decide) ?_
                                                    exact ih292 (k9 + 1) (by omega) _ (rfl) _ (by simp only [q8, c16, c53, c76, c116, c152, c230, c262, c298, c307, not_true_eq_false, not_false_eq_true, if_true, if_false]; try rfl) _ _ hP hS ls (lv_sub hl [1, 2, 0] rfl)
                                            exact lp292 (48) 0 (by omega) _ (rfl) _ (rfl) _ _ hP hS ls (lv_sub hl [1, 2, 0] rfl)
                                          · have n262 := (mt (o_nle (a := nO) (b := k8) hz257.2.2.1 rfl (by omega) (by omega)).mpr) c262; omega
                                        | succ d257 ih257 =>
                                          intro k8 hk257 x257_2 e257_2 τ257 eτ257 H locs hP hS ls hl
                                          subst e257_2
                                          subst eτ257
                                          have hz257 : qOK (q7 (q6 (q5 (q4 (q3 (q2 (q1 τ k) k2) (Z 2 42 0) nO nH k3) nO k5) k6) nS nO k7) k8) nS nO nH := hz225.of (q7_kp _ _)
                                          have hj257 : k8 < nO := by omega
                                          refine lv_iload_n hx hb dX5_pass_257 rfl (lv_at hl 2 rfl) ?_
                                          refine lv_aload_n hx hb dX5_pass_258 rfl (lv_at hl 0 rfl) ?_
                                          refine va_get (D := G.1) (ci := 7) (v := .int ((q7 (q6 (q5 (q4 (q3 (q2 (q1 τ k) k2) (Z 2 42 0) nO nH k3) nO k5) k6) nS nO k7) k8) 40 0 2)) (C := RX5) (T := TX5) (N := 21) hx hb hts (fun w9 h9 => List.mem_cons_of_mem _ (List.mem_append_left _ (List.mem_append_right _ (h9)))) hown hK hP (3 + 18 * o + (0)) (mt_S G Z ho (q7 (q6 (q5 (q4 (q3 (q2 (q1 τ k) k2) (Z 2 42 0) nO nH k3) nO k5) k6) nS nO k7) k8)) rfl 7 (by decide) (hts (.fieldLink RX5 81 "OrganCensusModel$State" "organs" "I") (List.mem_of_getElem? (i := 2) rfl)) (fun _ h9 => h9) rfl dX5_pass_259 ?_
                                          refine lv_icmp_ge (tgt := 290) hx hb dX5_pass_262 (by decide) (fun c262 => ?_) (fun c262 => ?_)
                                          · have n262 := (o_nle (a := nO) (b := k8) hz257.2.2.1 rfl (by omega) (by omega)).mp c262; omega
                                          · have n262 := (mt (o_nle (a := nO) (b := k8) hz257.2.2.1 rfl (by omega) (by omega)).mpr) c262
                                            refine lv_aload_n hx hb dX5_pass_265 rfl (lv_at hl 0 rfl) ?_
                                            refine va_get (D := G.1) (ci := 7) (v := .ref (ms G o 16)) (C := RX5) (T := TX5) (N := 21) hx hb hts (fun w9 h9 => List.mem_cons_of_mem _ (List.mem_append_left _ (List.mem_append_right _ (h9)))) hown hK hP (3 + 18 * o + (0)) (mt_S G Z ho (q7 (q6 (q5 (q4 (q3 (q2 (q1 τ k) k2) (Z 2 42 0) nO nH k3) nO k5) k6) nS nO k7) k8)) rfl 18 (by decide) (hts (.fieldLink RX5 61 "OrganCensusModel$State" "went" "[Z") (List.mem_of_getElem? (i := 3) rfl)) (fun _ h9 => h9) rfl dX5_pass_266 ?_
                                            refine lv_iload_n hx hb dX5_pass_269 rfl (lv_at hl 2 rfl) ?_
                                            refine o_zald (k := k8) hx hb hK hP (3 + 18 * o + (16)) 4 (mt_A16 G Z ho (q7 (q6 (q5 (q4 (q3 (q2 (q1 τ k) k2) (Z 2 42 0) nO nH k3) nO k5) k6) nS nO k7) k8)) rfl rfl (by omega) (by decide) dX5_pass_270 ?_
                                            refine lv_if_eq (tgt := 284) hx hb dX5_pass_271 (by decide) (fun c271 => ?_) (fun c271 => ?_)
                                            · refine lv_iinc (v := nI (k8 + 1)) (lv' := [(2, .int (nI (k8 + 1))), (0, .ref (ms G o 0)), (1, .int (qOver τ nO))]) hx hb dX5_pass_284 hl (k := 2) rfl (nI_1 k8) (by decide) rfl (fun ls hl => ?_)
                                              refine lv_goto (tgt := 257) hx hb dX5_pass_287 (by decide) ?_
                                              exact ih257 (k8 + 1) (by omega) _ (rfl) _ (by simp only [q7, c16, c53, c76, c116, c152, c230, c262, c271, if_true, if_false]; try rfl) _ _ hP hS ls (lv_sub hl [1, 2, 0] rfl)
                                            · refine lv_aload_n hx hb dX5_pass_274 rfl (lv_at hl 0 rfl) ?_
                                              refine va_get (D := G.1) (ci := 7) (v := .ref (ms G o 8)) (C := RX5) (T := TX5) (N := 21) hx hb hts (fun w9 h9 => List.mem_cons_of_mem _ (List.mem_append_left _ (List.mem_append_right _ (h9)))) hown hK hP (3 + 18 * o + (0)) (mt_S G Z ho (q7 (q6 (q5 (q4 (q3 (q2 (q1 τ k) k2) (Z 2 42 0) nO nH k3) nO k5) k6) nS nO k7) k8)) rfl 10 (by decide) (hts (.fieldLink RX5 37 "OrganCensusModel$State" "left" "[I") (List.mem_of_getElem? (i := 4) rfl)) (fun _ h9 => h9) rfl dX5_pass_275 ?_
                                              refine lv_iload_n hx hb dX5_pass_278 rfl (lv_at hl 2 rfl) ?_
                                              refine lv_dup2_11 hx hb dX5_pass_279 rfl rfl ?_
                                              refine o_iald (k := k8) hx hb hK hP (3 + 18 * o + (8)) 0 (mt_A8 G Z ho (q7 (q6 (q5 (q4 (q3 (q2 (q1 τ k) k2) (Z 2 42 0) nO nH k3) nO k5) k6) nS nO k7) k8)) rfl rfl (by omega) (by decide) dX5_pass_280 ?_
                                              refine lv_iconst (v := 1) hx hb dX5_pass_281 (by decide) ?_
                                              refine lv_isub hx hb dX5_pass_282 ?_
                                              refine o_iast (k := k8) hx hb hK hP (mt_D G Z o _ hI) hS (3 + 18 * o + (8)) 0 (mt_A8 G Z ho (q7 (q6 (q5 (q4 (q3 (q2 (q1 τ k) k2) (Z 2 42 0) nO nH k3) nO k5) k6) nS nO k7) k8)) rfl rfl (by omega) (by decide) dX5_pass_283 (fun H locs hP hD hS => ?_)
                                              have hP : va_P G.1 vwCl (mtw G Z o (su (q7 (q6 (q5 (q4 (q3 (q2 (q1 τ k) k2) (Z 2 42 0) nO nH k3) nO k5) k6) nS nO k7) k8) 8 0 k8 (((q7 (q6 (q5 (q4 (q3 (q2 (q1 τ k) k2) (Z 2 42 0) nO nH k3) nO k5) k6) nS nO k7) k8) 8 0 k8) - 1))) H := by rw [← mt_uA8 G Z ho (q7 (q6 (q5 (q4 (q3 (q2 (q1 τ k) k2) (Z 2 42 0) nO nH k3) nO k5) k6) nS nO k7) k8) k8 (((q7 (q6 (q5 (q4 (q3 (q2 (q1 τ k) k2) (Z 2 42 0) nO nH k3) nO k5) k6) nS nO k7) k8) 8 0 k8) - 1)]; exact hP
                                              clear hD
                                              refine lv_iinc (v := nI (k8 + 1)) (lv' := [(2, .int (nI (k8 + 1))), (0, .ref (ms G o 0)), (1, .int (qOver τ nO))]) hx hb dX5_pass_284 hl (k := 2) rfl (nI_1 k8) (by decide) rfl (fun ls hl => ?_)
                                              refine lv_goto (tgt := 257) hx hb dX5_pass_287 (by decide) ?_
                                              exact ih257 (k8 + 1) (by omega) _ (rfl) _ (by simp only [q7, c16, c53, c76, c116, c152, c230, c262, c271, if_true, if_false]; try rfl) _ _ hP hS ls (lv_sub hl [1, 2, 0] rfl)
                                      exact lp257 (nO) 0 (by omega) _ (rfl) _ (rfl) _ _ hP hS ls (lv_sub hl [1, 2, 0] rfl)
                                    · have n230 := (mt (o_nle (a := nS) (b := k7) hz225.1 rfl (by omega) (by omega)).mpr) c230; omega
                                  | succ d225 ih225 =>
                                    intro k7 hk225 x225_2 e225_2 τ225 eτ225 H locs hP hS ls hl
                                    subst e225_2
                                    subst eτ225
                                    have hz225 : qOK (q6 (q5 (q4 (q3 (q2 (q1 τ k) k2) (Z 2 42 0) nO nH k3) nO k5) k6) nS nO k7) nS nO nH := hz147.of (q6_kp _ _ _ _)
                                    have hj225 : k7 < nS := by omega
                                    refine lv_iload_n hx hb dX5_pass_225 rfl (lv_at hl 2 rfl) ?_
                                    refine lv_aload_n hx hb dX5_pass_226 rfl (lv_at hl 0 rfl) ?_
                                    refine va_get (D := G.1) (ci := 7) (v := .int ((q6 (q5 (q4 (q3 (q2 (q1 τ k) k2) (Z 2 42 0) nO nH k3) nO k5) k6) nS nO k7) 40 0 1)) (C := RX5) (T := TX5) (N := 21) hx hb hts (fun w9 h9 => List.mem_cons_of_mem _ (List.mem_append_left _ (List.mem_append_right _ (h9)))) hown hK hP (3 + 18 * o + (0)) (mt_S G Z ho (q6 (q5 (q4 (q3 (q2 (q1 τ k) k2) (Z 2 42 0) nO nH k3) nO k5) k6) nS nO k7)) rfl 1 (by decide) (hts (.fieldLink RX5 78 "OrganCensusModel$State" "streets" "I") (List.mem_of_getElem? (i := 6) rfl)) (fun _ h9 => h9) rfl dX5_pass_227 ?_
                                    refine lv_icmp_ge (tgt := 255) hx hb dX5_pass_230 (by decide) (fun c230 => ?_) (fun c230 => ?_)
                                    · have n230 := (o_nle (a := nS) (b := k7) hz225.1 rfl (by omega) (by omega)).mp c230; omega
                                    · have n230 := (mt (o_nle (a := nS) (b := k7) hz225.1 rfl (by omega) (by omega)).mpr) c230
                                      refine lv_aload_n hx hb dX5_pass_233 rfl (lv_at hl 0 rfl) ?_
                                      refine lv_iload_n hx hb dX5_pass_234 rfl (lv_at hl 2 rfl) ?_
                                      refine lv_iconst (v := (-1)) hx hb dX5_pass_235 (by decide) ?_
                                      refine o_cVi (q0 := 3 + 18 * o + (0)) (ci := 7) [.int (nI k7), .int ((-1))] [] ⟨hx, hb, hml, hown, hts⟩ (m_X5_complaintsOf l G Z ho (q6 (q5 (q4 (q3 (q2 (q1 τ k) k2) (Z 2 42 0) nO nH k3) nO k5) k6) nS nO k7) nS nO nH hz225 (nI k7) (-1)) (cwV 2 hts gX5_pass_X5_complaintsOf rfl rfl rfl (by decide +kernel) ⟨Nat.le_of_ble_eq_true rfl, Nat.le_of_ble_eq_true rfl⟩) hK hN hP rfl rfl (mt_S G Z ho (q6 (q5 (q4 (q3 (q2 (q1 τ k) k2) (Z 2 42 0) nO nH k3) nO k5) k6) nS nO k7)) rfl hl.1 rfl (Nat.le_of_ble_eq_true rfl) dX5_pass_236 ⟨Nat.zero_le _, Nat.zero_le _⟩ ?_
                                      refine lv_bipush (v := 10) hx hb dX5_pass_239 (by decide) ?_
                                      refine lv_icmp_lt (tgt := 249) hx hb dX5_pass_241 (by decide) (fun c241 => ?_) (fun c241 => ?_)
                                      · refine lv_iinc (v := nI (k7 + 1)) (lv' := [(2, .int (nI (k7 + 1))), (0, .ref (ms G o 0)), (1, .int (qOver τ nO))]) hx hb dX5_pass_249 hl (k := 2) rfl (nI_1 k7) (by decide) rfl (fun ls hl => ?_)
                                        refine lv_goto (tgt := 225) hx hb dX5_pass_252 (by decide) ?_
                                        exact ih225 (k7 + 1) (by omega) _ (rfl) _ (by simp only [q6, c16, c53, c76, c116, c152, c230, c241, if_true, if_false]; try rfl) _ _ hP hS ls (lv_sub hl [1, 2, 0] rfl)
                                      · have hO1 : 1 ≤ nO := by
                                          rcases Nat.eq_zero_or_pos nO with h | h
                                          · subst h; exact absurd (show (0 : Int32) < 10 by decide) c241
                                          · exact h
                                        refine lv_aload_n hx hb dX5_pass_244 rfl (lv_at hl 0 rfl) ?_
                                        refine lv_iload_n hx hb dX5_pass_245 rfl (lv_at hl 2 rfl) ?_
                                        refine o_cVmv (q0 := 3 + 18 * o + (0)) (ci := 7) [.int (nI k7)] [] ⟨hx, hb, hml, hown, hts⟩ (m_X5_sweep l G Z ho hI (q6 (q5 (q4 (q3 (q2 (q1 τ k) k2) (Z 2 42 0) nO nH k3) nO k5) k6) nS nO k7) nS nO nH hz225 k7 (nI k7) (rfl) (by omega) (by assumption)) (cwV 1 hts gX5_pass_X5_sweep rfl rfl rfl (by decide +kernel) ⟨Nat.le_of_ble_eq_true rfl, Nat.le_of_ble_eq_true rfl⟩) hK hN hP hS rfl rfl (mt_S G Z ho (q6 (q5 (q4 (q3 (q2 (q1 τ k) k2) (Z 2 42 0) nO nH k3) nO k5) k6) nS nO k7)) rfl hl.1 rfl (Nat.le_of_ble_eq_true rfl) dX5_pass_246 ⟨Nat.zero_le _, Nat.zero_le _⟩ (fun H locs hP hS => ?_)
                                        refine lv_iinc (v := nI (k7 + 1)) (lv' := [(2, .int (nI (k7 + 1))), (0, .ref (ms G o 0)), (1, .int (qOver τ nO))]) hx hb dX5_pass_249 hl (k := 2) rfl (nI_1 k7) (by decide) rfl (fun ls hl => ?_)
                                        refine lv_goto (tgt := 225) hx hb dX5_pass_252 (by decide) ?_
                                        exact ih225 (k7 + 1) (by omega) _ (rfl) _ (by simp only [q6, c16, c53, c76, c116, c152, c230, c241, if_true, if_false]; try rfl) _ _ hP hS ls (lv_sub hl [1, 2, 0] rfl)
                                exact lp225 (nS) 0 (by omega) _ (rfl) _ (rfl) _ _ hP hS ls (lv_sub hl [1, 2, 0] rfl)
                              · have n152 := (mt (o_nle (a := nO) (b := k6) hz147.2.2.1 rfl (by omega) (by omega)).mpr) c152; omega
                            | succ d147 ih147 =>
                              intro k6 hk147 x147_2 e147_2 τ147 eτ147 H locs hP hS ls hl
                              subst e147_2
                              subst eτ147
                              have hz147 : qOK (q5 (q4 (q3 (q2 (q1 τ k) k2) (Z 2 42 0) nO nH k3) nO k5) k6) nS nO nH := q5_ok hz111 k6 (by omega)
                              have hj147 : k6 < nO := by omega
                              refine lv_iload_n hx hb dX5_pass_147 rfl (lv_at hl 2 rfl) ?_
                              refine lv_aload_n hx hb dX5_pass_148 rfl (lv_at hl 0 rfl) ?_
                              refine va_get (D := G.1) (ci := 7) (v := .int ((q5 (q4 (q3 (q2 (q1 τ k) k2) (Z 2 42 0) nO nH k3) nO k5) k6) 40 0 2)) (C := RX5) (T := TX5) (N := 21) hx hb hts (fun w9 h9 => List.mem_cons_of_mem _ (List.mem_append_left _ (List.mem_append_right _ (h9)))) hown hK hP (3 + 18 * o + (0)) (mt_S G Z ho (q5 (q4 (q3 (q2 (q1 τ k) k2) (Z 2 42 0) nO nH k3) nO k5) k6)) rfl 7 (by decide) (hts (.fieldLink RX5 81 "OrganCensusModel$State" "organs" "I") (List.mem_of_getElem? (i := 2) rfl)) (fun _ h9 => h9) rfl dX5_pass_149 ?_
                              refine lv_icmp_ge (tgt := 223) hx hb dX5_pass_152 (by decide) (fun c152 => ?_) (fun c152 => ?_)
                              · have n152 := (o_nle (a := nO) (b := k6) hz147.2.2.1 rfl (by omega) (by omega)).mp c152; omega
                              · have n152 := (mt (o_nle (a := nO) (b := k6) hz147.2.2.1 rfl (by omega) (by omega)).mpr) c152
                                refine lv_aload_n hx hb dX5_pass_155 rfl (lv_at hl 0 rfl) ?_
                                refine va_get (D := G.1) (ci := 7) (v := .ref (ms G o 16)) (C := RX5) (T := TX5) (N := 21) hx hb hts (fun w9 h9 => List.mem_cons_of_mem _ (List.mem_append_left _ (List.mem_append_right _ (h9)))) hown hK hP (3 + 18 * o + (0)) (mt_S G Z ho (q5 (q4 (q3 (q2 (q1 τ k) k2) (Z 2 42 0) nO nH k3) nO k5) k6)) rfl 18 (by decide) (hts (.fieldLink RX5 61 "OrganCensusModel$State" "went" "[Z") (List.mem_of_getElem? (i := 3) rfl)) (fun _ h9 => h9) rfl dX5_pass_156 ?_
                                refine lv_iload_n hx hb dX5_pass_159 rfl (lv_at hl 2 rfl) ?_
                                refine o_zald (k := k6) hx hb hK hP (3 + 18 * o + (16)) 4 (mt_A16 G Z ho (q5 (q4 (q3 (q2 (q1 τ k) k2) (Z 2 42 0) nO nH k3) nO k5) k6)) rfl rfl (by omega) (by decide) dX5_pass_160 ?_
                                refine lv_if_eq (tgt := 167) hx hb dX5_pass_161 (by decide) (fun c161 => ?_) (fun c161 => ?_)
                                · have hq := hz147.2.2.2.2.2.2.2 k6 (by omega)
                                  have htu := (oTu_lt hq.2.1 hq.2.2.2).1
                                  change qTu (q5 (q4 (q3 (q2 (q1 τ k) k2) (Z 2 42 0) nO nH k3) nO k5) k6) k6 < 6 at htu
                                  refine lv_bipush (v := 6) hx hb dX5_pass_167 (by decide) ?_
                                  refine lv_iload_n hx hb dX5_pass_169 rfl (lv_at hl 2 rfl) ?_
                                  refine lv_imul hx hb dX5_pass_170 ?_
                                  refine lv_aload_n hx hb dX5_pass_171 rfl (lv_at hl 0 rfl) ?_
                                  refine lv_iload_n hx hb dX5_pass_172 rfl (lv_at hl 2 rfl) ?_
                                  refine o_cVi (q0 := 3 + 18 * o + (0)) (ci := 7) [.int (nI k6)] [.int (6 * (nI k6))] ⟨hx, hb, hml, hown, hts⟩ (m_X5_tune l G Z ho (q5 (q4 (q3 (q2 (q1 τ k) k2) (Z 2 42 0) nO nH k3) nO k5) k6) nS nO nH hz147 k6 (nI k6) (rfl) (by omega)) (cwV 1 hts gX5_pass_X5_tune rfl rfl rfl (by decide +kernel) ⟨Nat.le_of_ble_eq_true rfl, Nat.le_of_ble_eq_true rfl⟩) hK hN hP rfl rfl (mt_S G Z ho (q5 (q4 (q3 (q2 (q1 τ k) k2) (Z 2 42 0) nO nH k3) nO k5) k6)) rfl hl.1 rfl (Nat.le_of_ble_eq_true rfl) dX5_pass_173 ⟨Nat.zero_le _, Nat.zero_le _⟩ ?_
                                  refine lv_iadd hx hb dX5_pass_176 ?_
                                  refine lv_istore_n (lv' := [(3, .int ((6 * (nI k6)) + (nI (qTu (q5 (q4 (q3 (q2 (q1 τ k) k2) (Z 2 42 0) nO nH k3) nO k5) k6) k6)))), (0, .ref (ms G o 0)), (1, .int (qOver τ nO)), (2, .int (nI k6))]) hx hb dX5_pass_177 rfl hl (by decide) rfl (fun ls hl => ?_)
                                  refine lv_aload_n hx hb dX5_pass_178 rfl (lv_at hl 1 rfl) ?_
                                  refine va_get (D := G.1) (ci := 7) (v := .ref (ms G o 13)) (C := RX5) (T := TX5) (N := 21) hx hb hts (fun w9 h9 => List.mem_cons_of_mem _ (List.mem_append_left _ (List.mem_append_right _ (h9)))) hown hK hP (3 + 18 * o + (0)) (mt_S G Z ho (q5 (q4 (q3 (q2 (q1 τ k) k2) (Z 2 42 0) nO nH k3) nO k5) k6)) rfl 15 (by decide) (hts (.fieldLink RX5 52 "OrganCensusModel$State" "wear" "[I") (List.mem_of_getElem? (i := 8) rfl)) (fun _ h9 => h9) rfl dX5_pass_179 ?_
                                  refine lv_iload_n hx hb dX5_pass_182 rfl (lv_at hl 0 rfl) ?_
                                  refine lv_bipush (v := 90) hx hb dX5_pass_183 (by decide) ?_
                                  refine lv_aload_n hx hb dX5_pass_185 rfl (lv_at hl 1 rfl) ?_
                                  refine va_get (D := G.1) (ci := 7) (v := .ref (ms G o 13)) (C := RX5) (T := TX5) (N := 21) hx hb hts (fun w9 h9 => List.mem_cons_of_mem _ (List.mem_append_left _ (List.mem_append_right _ (h9)))) hown hK hP (3 + 18 * o + (0)) (mt_S G Z ho (q5 (q4 (q3 (q2 (q1 τ k) k2) (Z 2 42 0) nO nH k3) nO k5) k6)) rfl 15 (by decide) (hts (.fieldLink RX5 52 "OrganCensusModel$State" "wear" "[I") (List.mem_of_getElem? (i := 8) rfl)) (fun _ h9 => h9) rfl dX5_pass_186 ?_
                                  refine lv_iload_n hx hb dX5_pass_189 rfl (lv_at hl 0 rfl) ?_
                                  refine o_iald (k := (6 * k6) + (qTu (q5 (q4 (q3 (q2 (q1 τ k) k2) (Z 2 42 0) nO nH k3) nO k5) k6) k6)) hx hb hK hP (3 + 18 * o + (13)) 0 (mt_A13 G Z ho (q5 (q4 (q3 (q2 (q1 τ k) k2) (Z 2 42 0) nO nH k3) nO k5) k6)) rfl (o_nadd (o_nmul (by decide) rfl) rfl) (by omega) (by decide) dX5_pass_190 ?_
                                  refine lv_iconst (v := 1) hx hb dX5_pass_191 (by decide) ?_
                                  refine lv_iadd hx hb dX5_pass_192 ?_
                                  refine va_mmin (rest := [.int ((6 * (nI k6)) + (nI (qTu (q5 (q4 (q3 (q2 (q1 τ k) k2) (Z 2 42 0) nO nH k3) nO k5) k6) k6))), .ref (ms G o 13)]) hx hb (hml.trans hl.1.symm) hown (hts (.methodLink RX5 125 Lib.Math.min.name) (List.mem_of_getElem? (i := 9) rfl)) (hts (.static Lib.Math.min.name) (List.mem_of_getElem? (i := 10) rfl)) (hts (.initialized "java/lang/Math") (List.mem_of_getElem? (i := 11) rfl)) (hts (.code Lib.Math.min.name Lib.Math.min.code 2 (some .int)) (List.mem_of_getElem? (i := 12) rfl)) (Nat.le_of_ble_eq_true rfl) (Nat.le_of_ble_eq_true rfl) (Nat.zero_le _) (Nat.zero_le _) dX5_pass_193 ?_
                                  change W _ _ _ _ _ _ _ _ _ _ _ _ _ _ _ (F0 m 196 ls (.int (o_min 90 (((q5 (q4 (q3 (q2 (q1 τ k) k2) (Z 2 42 0) nO nH k3) nO k5) k6) 13 0 ((6 * k6) + (qTu (q5 (q4 (q3 (q2 (q1 τ k) k2) (Z 2 42 0) nO nH k3) nO k5) k6) k6))) + 1)) :: _))
                                  refine o_iast (k := (6 * k6) + (qTu (q5 (q4 (q3 (q2 (q1 τ k) k2) (Z 2 42 0) nO nH k3) nO k5) k6) k6)) hx hb hK hP (mt_D G Z o _ hI) hS (3 + 18 * o + (13)) 0 (mt_A13 G Z ho (q5 (q4 (q3 (q2 (q1 τ k) k2) (Z 2 42 0) nO nH k3) nO k5) k6)) rfl (o_nadd (o_nmul (by decide) rfl) rfl) (by omega) (by decide) dX5_pass_196 (fun H locs hP hD hS => ?_)
                                  have hP : va_P G.1 vwCl (mtw G Z o (su (q5 (q4 (q3 (q2 (q1 τ k) k2) (Z 2 42 0) nO nH k3) nO k5) k6) 13 0 ((6 * k6) + (qTu (q5 (q4 (q3 (q2 (q1 τ k) k2) (Z 2 42 0) nO nH k3) nO k5) k6) k6)) (o_min 90 (((q5 (q4 (q3 (q2 (q1 τ k) k2) (Z 2 42 0) nO nH k3) nO k5) k6) 13 0 ((6 * k6) + (qTu (q5 (q4 (q3 (q2 (q1 τ k) k2) (Z 2 42 0) nO nH k3) nO k5) k6) k6))) + 1)))) H := by rw [← mt_uA13 G Z ho (q5 (q4 (q3 (q2 (q1 τ k) k2) (Z 2 42 0) nO nH k3) nO k5) k6) ((6 * k6) + (qTu (q5 (q4 (q3 (q2 (q1 τ k) k2) (Z 2 42 0) nO nH k3) nO k5) k6) k6)) (o_min 90 (((q5 (q4 (q3 (q2 (q1 τ k) k2) (Z 2 42 0) nO nH k3) nO k5) k6) 13 0 ((6 * k6) + (qTu (q5 (q4 (q3 (q2 (q1 τ k) k2) (Z 2 42 0) nO nH k3) nO k5) k6) k6))) + 1))]; exact hP
                                  clear hD
                                  have hP : va_P G.1 vwCl (mtw G Z o (qT1 (q5 (q4 (q3 (q2 (q1 τ k) k2) (Z 2 42 0) nO nH k3) nO k5) k6) k6)) H := hP
                                  have hz196 : qOK (qT1 (q5 (q4 (q3 (q2 (q1 τ k) k2) (Z 2 42 0) nO nH k3) nO k5) k6) k6) nS nO nH := hz147.of (qKp.su _ _ _ _ (by decide))
                                  refine lv_aload_n hx hb dX5_pass_197 rfl (lv_at hl 1 rfl) ?_
                                  refine va_get (D := G.1) (ci := 7) (v := .ref (ms G o 12)) (C := RX5) (T := TX5) (N := 21) hx hb hts (fun w9 h9 => List.mem_cons_of_mem _ (List.mem_append_left _ (List.mem_append_right _ (h9)))) hown hK hP (3 + 18 * o + (0)) (mt_S G Z ho (qT1 (q5 (q4 (q3 (q2 (q1 τ k) k2) (Z 2 42 0) nO nH k3) nO k5) k6) k6)) rfl 14 (by decide) (hts (.fieldLink RX5 49 "OrganCensusModel$State" "place" "[I") (List.mem_of_getElem? (i := 13) rfl)) (fun _ h9 => h9) rfl dX5_pass_198 ?_
                                  refine lv_iload_n hx hb dX5_pass_201 rfl (lv_at hl 3 rfl) ?_
                                  refine lv_aload_n hx hb dX5_pass_202 rfl (lv_at hl 1 rfl) ?_
                                  refine va_get (D := G.1) (ci := 7) (v := .ref (ms G o 12)) (C := RX5) (T := TX5) (N := 21) hx hb hts (fun w9 h9 => List.mem_cons_of_mem _ (List.mem_append_left _ (List.mem_append_right _ (h9)))) hown hK hP (3 + 18 * o + (0)) (mt_S G Z ho (qT1 (q5 (q4 (q3 (q2 (q1 τ k) k2) (Z 2 42 0) nO nH k3) nO k5) k6) k6)) rfl 14 (by decide) (hts (.fieldLink RX5 49 "OrganCensusModel$State" "place" "[I") (List.mem_of_getElem? (i := 13) rfl)) (fun _ h9 => h9) rfl dX5_pass_203 ?_
                                  refine lv_iload_n hx hb dX5_pass_206 rfl (lv_at hl 3 rfl) ?_
                                  refine o_iald (k := k6) hx hb hK hP (3 + 18 * o + (12)) 0 (mt_A12 G Z ho (qT1 (q5 (q4 (q3 (q2 (q1 τ k) k2) (Z 2 42 0) nO nH k3) nO k5) k6) k6)) rfl rfl (by omega) (by decide) dX5_pass_207 ?_
                                  refine lv_iconst (v := 1) hx hb dX5_pass_208 (by decide) ?_
                                  refine lv_iadd hx hb dX5_pass_209 ?_
                                  refine lv_aload_n hx hb dX5_pass_210 rfl (lv_at hl 1 rfl) ?_
                                  refine lv_iload_n hx hb dX5_pass_211 rfl (lv_at hl 3 rfl) ?_
                                  refine o_cVi (q0 := 3 + 18 * o + (0)) (ci := 7) [.int (nI k6)] [.int (((qT1 (q5 (q4 (q3 (q2 (q1 τ k) k2) (Z 2 42 0) nO nH k3) nO k5) k6) k6) 12 0 k6) + 1), .int (nI k6), .ref (ms G o 12)] ⟨hx, hb, hml, hown, hts⟩ (m_X5_tunes l G Z ho (qT1 (q5 (q4 (q3 (q2 (q1 τ k) k2) (Z 2 42 0) nO nH k3) nO k5) k6) k6) nS nO nH hz196 k6 (nI k6) (rfl) (by omega)) (cwV 1 hts gX5_pass_X5_tunes rfl rfl rfl (by decide +kernel) ⟨Nat.le_of_ble_eq_true rfl, Nat.le_of_ble_eq_true rfl⟩) hK hN hP rfl rfl (mt_S G Z ho (qT1 (q5 (q4 (q3 (q2 (q1 τ k) k2) (Z 2 42 0) nO nH k3) nO k5) k6) k6)) rfl hl.1 rfl (Nat.le_of_ble_eq_true rfl) dX5_pass_212 ⟨Nat.zero_le _, Nat.zero_le _⟩ ?_
                                  refine o_irem hx hb dX5_pass_215 (by have hd := (hz196.2.2.2.2.2.2.2 k6 (by omega)).2.2.2; have h8 := oDg_8 (hz196.2.2.2.2.2.2.2 k6 (by omega)).2.1.1; exact mt (o_neq (a := oDg (qB (qT1 (q5 (q4 (q3 (q2 (q1 τ k) k2) (Z 2 42 0) nO nH k3) nO k5) k6) k6) k6)) (b := 0) rfl (by decide) (by omega) (by decide)).mp (by omega)) ?_
                                  refine o_iast (k := k6) hx hb hK hP (mt_D G Z o _ hI) hS (3 + 18 * o + (12)) 0 (mt_A12 G Z ho (qT1 (q5 (q4 (q3 (q2 (q1 τ k) k2) (Z 2 42 0) nO nH k3) nO k5) k6) k6)) rfl rfl (by omega) (by decide) dX5_pass_216 (fun H locs hP hD hS => ?_)
                                  have hP : va_P G.1 vwCl (mtw G Z o (su (qT1 (q5 (q4 (q3 (q2 (q1 τ k) k2) (Z 2 42 0) nO nH k3) nO k5) k6) k6) 12 0 k6 (o_rem (((qT1 (q5 (q4 (q3 (q2 (q1 τ k) k2) (Z 2 42 0) nO nH k3) nO k5) k6) k6) 12 0 k6) + 1) (nI (oDg (qB (qT1 (q5 (q4 (q3 (q2 (q1 τ k) k2) (Z 2 42 0) nO nH k3) nO k5) k6) k6) k6)))))) H := by rw [← mt_uA12 G Z ho (qT1 (q5 (q4 (q3 (q2 (q1 τ k) k2) (Z 2 42 0) nO nH k3) nO k5) k6) k6) k6 (o_rem (((qT1 (q5 (q4 (q3 (q2 (q1 τ k) k2) (Z 2 42 0) nO nH k3) nO k5) k6) k6) 12 0 k6) + 1) (nI (oDg (qB (qT1 (q5 (q4 (q3 (q2 (q1 τ k) k2) (Z 2 42 0) nO nH k3) nO k5) k6) k6) k6))))]; exact hP
                                  clear hD
                                  refine lv_iinc (v := nI (k6 + 1)) (lv' := [(2, .int (nI (k6 + 1))), (3, .int ((6 * (nI k6)) + (nI (qTu (q5 (q4 (q3 (q2 (q1 τ k) k2) (Z 2 42 0) nO nH k3) nO k5) k6) k6)))), (0, .ref (ms G o 0)), (1, .int (qOver τ nO))]) hx hb dX5_pass_217 hl (k := 3) rfl (nI_1 k6) (by decide) rfl (fun ls hl => ?_)
                                  refine lv_goto (tgt := 147) hx hb dX5_pass_220 (by decide) ?_
                                  exact ih147 (k6 + 1) (by omega) _ (rfl) _ (by simp only [q5, c16, c53, c76, c116, c152, c161, not_true_eq_false, not_false_eq_true, if_true, if_false]; try rfl) _ _ hP hS ls (lv_sub hl [2, 3, 0] rfl)
                                · refine lv_goto (tgt := 217) hx hb dX5_pass_164 (by decide) ?_
                                  refine lv_iinc (v := nI (k6 + 1)) (lv' := [(2, .int (nI (k6 + 1))), (0, .ref (ms G o 0)), (1, .int (qOver τ nO))]) hx hb dX5_pass_217 hl (k := 2) rfl (nI_1 k6) (by decide) rfl (fun ls hl => ?_)
                                  refine lv_goto (tgt := 147) hx hb dX5_pass_220 (by decide) ?_
                                  exact ih147 (k6 + 1) (by omega) _ (rfl) _ (by simp only [q5, c16, c53, c76, c116, c152, c161, not_true_eq_false, not_false_eq_true, if_true, if_false]; try rfl) _ _ hP hS ls (lv_sub hl [1, 2, 0] rfl)
                          exact lp147 (nO) 0 (by omega) _ (rfl) _ (rfl) _ _ hP hS ls (lv_sub hl [1, 2, 0] rfl)
                        · have n116 := (mt (o_nle (a := nS) (b := k5) hz111.1 rfl (by omega) (by omega)).mpr) c116; omega
                      | succ d111 ih111 =>
                        intro k5 hk111 x111_2 e111_2 τ111 eτ111 H locs hP hS ls hl
                        subst e111_2
                        subst eτ111
                        have hz111 : qOK (q4 (q3 (q2 (q1 τ k) k2) (Z 2 42 0) nO nH k3) nO k5) nS nO nH := hz71.of (q4_kp _ _ _)
                        have hj111 : k5 < nS := by omega
                        refine lv_iload_n hx hb dX5_pass_111 rfl (lv_at hl 2 rfl) ?_
                        refine lv_aload_n hx hb dX5_pass_112 rfl (lv_at hl 0 rfl) ?_
                        refine va_get (D := G.1) (ci := 7) (v := .int ((q4 (q3 (q2 (q1 τ k) k2) (Z 2 42 0) nO nH k3) nO k5) 40 0 1)) (C := RX5) (T := TX5) (N := 21) hx hb hts (fun w9 h9 => List.mem_cons_of_mem _ (List.mem_append_left _ (List.mem_append_right _ (h9)))) hown hK hP (3 + 18 * o + (0)) (mt_S G Z ho (q4 (q3 (q2 (q1 τ k) k2) (Z 2 42 0) nO nH k3) nO k5)) rfl 1 (by decide) (hts (.fieldLink RX5 78 "OrganCensusModel$State" "streets" "I") (List.mem_of_getElem? (i := 6) rfl)) (fun _ h9 => h9) rfl dX5_pass_113 ?_
                        refine lv_icmp_ge (tgt := 145) hx hb dX5_pass_116 (by decide) (fun c116 => ?_) (fun c116 => ?_)
                        · have n116 := (o_nle (a := nS) (b := k5) hz111.1 rfl (by omega) (by omega)).mp c116; omega
                        · have n116 := (mt (o_nle (a := nS) (b := k5) hz111.1 rfl (by omega) (by omega)).mpr) c116
                          refine lv_iconst (v := 0) hx hb dX5_pass_119 (by decide) ?_
                          refine lv_istore_n (lv' := [(3, .int 0), (0, .ref (ms G o 0)), (1, .int (qOver τ nO)), (2, .int (nI k5))]) hx hb dX5_pass_120 rfl hl (by decide) rfl (fun ls hl => ?_)
                          have lp121 : ∀ (d121 u : Nat), u + d121 = 6 → ∀ x121_3 : Int32, x121_3 = (nI u) → ∀ (τ121 : oT), τ121 = (q4s (q4 (q3 (q2 (q1 τ k) k2) (Z 2 42 0) nO nH k3) nO k5) nO k5 u) → ∀ (H : Heap) (locs : List Loc), va_P G.1 vwCl (mtw G Z o τ121) H → va_S (mA G) s.heap H locs → ∀ ls : Array Slot, lv_has ls 4 [(0, .ref (ms G o 0)), (1, .int (qOver τ nO)), (2, .int (nI k5)), (3, .int x121_3)] → W p l e ({ frames := 5, cells := 0, slots := 0, locals := 121 } : Room) s m ([.ref (ms G o 0)] : List Value).toArray below meth c H locs 0 0 (MQ below (oQ (some (.int (qOver (qHour τ (Z 2 42 0) nS nO nH) nO - qOver τ nO))) (fun H9 => va_P G.1 vwCl (mtw G Z o (qHour τ (Z 2 42 0) nS nO nH)) H9) (mA G)) ([.ref (ms G o 0)] : List Value).toArray s 0 0 (mA G)) (F0 m 121 ls []) := by
                            intro d121
                            induction d121 with
                            | zero =>
                              intro u hk121 x121_3 e121_3 τ121 eτ121 H locs hP hS ls hl
                              subst e121_3
                              subst eτ121
                              have hz121 : qOK (q4s (q4 (q3 (q2 (q1 τ k) k2) (Z 2 42 0) nO nH k3) nO k5) nO k5 u) nS nO nH := hz111.of (q4s_kp _ _ _ _)
                              have hk121 : u = 6 := by omega
                              refine lv_iload_n hx hb dX5_pass_121 rfl (lv_at hl 3 rfl) ?_
                              refine lv_bipush (v := 6) hx hb dX5_pass_122 (by decide) ?_
                              refine lv_icmp_ge (tgt := 139) hx hb dX5_pass_124 (by decide) (fun c124 => ?_) (fun c124 => ?_)
                              · have n124 := (o_nle (a := 6) (b := u) (by decide) rfl (by omega) (by omega)).mp c124
                                refine lv_iinc (v := nI (k5 + 1)) (lv' := [(2, .int (nI (k5 + 1))), (0, .ref (ms G o 0)), (1, .int (qOver τ nO)), (3, .int (nI u))]) hx hb dX5_pass_139 hl (k := 2) rfl (nI_1 k5) (by decide) rfl (fun ls hl => ?_)
                                refine lv_goto (tgt := 111) hx hb dX5_pass_142 (by decide) ?_
                                exact ih111 (k5 + 1) (by omega) _ (rfl) _ (by rw [hk121]; rfl) _ _ hP hS ls (lv_sub hl [1, 2, 0] rfl)
                              · have n124 := (mt (o_nle (a := 6) (b := u) (by decide) rfl (by omega) (by omega)).mpr) c124; omega
                            | succ d121 ih121 =>
                              intro u hk121 x121_3 e121_3 τ121 eτ121 H locs hP hS ls hl
                              subst e121_3
                              subst eτ121
                              have hz121 : qOK (q4s (q4 (q3 (q2 (q1 τ k) k2) (Z 2 42 0) nO nH k3) nO k5) nO k5 u) nS nO nH := hz111.of (q4s_kp _ _ _ _)
                              have hj121 : u < 6 := by omega
                              refine lv_iload_n hx hb dX5_pass_121 rfl (lv_at hl 3 rfl) ?_
                              refine lv_bipush (v := 6) hx hb dX5_pass_122 (by decide) ?_
                              refine lv_icmp_ge (tgt := 139) hx hb dX5_pass_124 (by decide) (fun c124 => ?_) (fun c124 => ?_)
                              · have n124 := (o_nle (a := 6) (b := u) (by decide) rfl (by omega) (by omega)).mp c124; omega
                              · have n124 := (mt (o_nle (a := 6) (b := u) (by decide) rfl (by omega) (by omega)).mpr) c124
                                refine lv_aload_n hx hb dX5_pass_127 rfl (lv_at hl 0 rfl) ?_
                                refine lv_iload_n hx hb dX5_pass_128 rfl (lv_at hl 2 rfl) ?_
                                refine lv_iload_n hx hb dX5_pass_129 rfl (lv_at hl 3 rfl) ?_
                                refine o_cVmv (q0 := 3 + 18 * o + (0)) (ci := 7) [.int (nI k5), .int (nI u)] [] ⟨hx, hb, hml, hown, hts⟩ (m_X5_tire l G Z ho hI (q4s (q4 (q3 (q2 (q1 τ k) k2) (Z 2 42 0) nO nH k3) nO k5) nO k5 u) nS nO nH hz121 k5 (nI k5) (rfl) (by omega) u (nI u) (rfl) (by omega)) (cwV 2 hts gX5_pass_X5_tire rfl rfl rfl (by decide +kernel) ⟨Nat.le_of_ble_eq_true rfl, Nat.le_of_ble_eq_true rfl⟩) hK hN hP hS rfl rfl (mt_S G Z ho (q4s (q4 (q3 (q2 (q1 τ k) k2) (Z 2 42 0) nO nH k3) nO k5) nO k5 u)) rfl hl.1 rfl (Nat.le_of_ble_eq_true rfl) dX5_pass_130 ⟨Nat.zero_le _, Nat.zero_le _⟩ (fun H locs hP hS => ?_)
                                refine lv_iinc (v := nI (u + 1)) (lv' := [(3, .int (nI (u + 1))), (0, .ref (ms G o 0)), (1, .int (qOver τ nO)), (2, .int (nI k5))]) hx hb dX5_pass_133 hl (k := 3) rfl (nI_1 u) (by decide) rfl (fun ls hl => ?_)
                                refine lv_goto (tgt := 121) hx hb dX5_pass_136 (by decide) ?_
                                exact ih121 (u + 1) (by omega) _ (rfl) _ (rfl) _ _ hP hS ls (lv_sub hl [1, 2, 3, 0] rfl)
                          exact lp121 (6) 0 (by omega) _ (rfl) _ (rfl) _ _ hP hS ls (lv_sub hl [1, 2, 3, 0] rfl)
                    exact lp111 (nS) 0 (by omega) _ (rfl) _ (rfl) _ _ hP hS ls (lv_sub hl [1, 2, 0] rfl)
                  · have n76 := (mt (o_nle (a := nS) (b := k3) hz71.1 rfl (by omega) (by omega)).mpr) c76; omega
                | succ d71 ih71 =>
                  intro k3 hk71 x71_2 e71_2 τ71 eτ71 H locs hP hS ls hl
                  subst e71_2
                  subst eτ71
                  have hz71 : qOK (q3 (q2 (q1 τ k) k2) (Z 2 42 0) nO nH k3) nS nO nH := hz47.of (q3_kp _ _ _ _ _)
                  have hj71 : k3 < nS := by omega
                  refine lv_iload_n hx hb dX5_pass_71 rfl (lv_at hl 2 rfl) ?_
                  refine lv_aload_n hx hb dX5_pass_72 rfl (lv_at hl 0 rfl) ?_
                  refine va_get (D := G.1) (ci := 7) (v := .int ((q3 (q2 (q1 τ k) k2) (Z 2 42 0) nO nH k3) 40 0 1)) (C := RX5) (T := TX5) (N := 21) hx hb hts (fun w9 h9 => List.mem_cons_of_mem _ (List.mem_append_left _ (List.mem_append_right _ (h9)))) hown hK hP (3 + 18 * o + (0)) (mt_S G Z ho (q3 (q2 (q1 τ k) k2) (Z 2 42 0) nO nH k3)) rfl 1 (by decide) (hts (.fieldLink RX5 78 "OrganCensusModel$State" "streets" "I") (List.mem_of_getElem? (i := 6) rfl)) (fun _ h9 => h9) rfl dX5_pass_73 ?_
                  refine lv_icmp_ge (tgt := 109) hx hb dX5_pass_76 (by decide) (fun c76 => ?_) (fun c76 => ?_)
                  · have n76 := (o_nle (a := nS) (b := k3) hz71.1 rfl (by omega) (by omega)).mp c76; omega
                  · have n76 := (mt (o_nle (a := nS) (b := k3) hz71.1 rfl (by omega) (by omega)).mpr) c76
                    refine lv_iconst (v := 0) hx hb dX5_pass_79 (by decide) ?_
                    refine lv_istore_n (lv' := [(3, .int 0), (0, .ref (ms G o 0)), (1, .int (qOver τ nO)), (2, .int (nI k3))]) hx hb dX5_pass_80 rfl hl (by decide) rfl (fun ls hl => ?_)
                    have hp20 := (hz71.2.2.2.2.2.2.1 k3 (by omega)).2
                    have lp81 : ∀ (d81 k4 : Nat), k4 + d81 = qNp (q3 (q2 (q1 τ k) k2) (Z 2 42 0) nO nH k3) k3 → ∀ x81_3 : Int32, x81_3 = (nI k4) → ∀ (τ81 : oT), τ81 = (q3s (q3 (q2 (q1 τ k) k2) (Z 2 42 0) nO nH k3) (Z 2 42 0) nO k3 nH k4) → ∀ (H : Heap) (locs : List Loc), va_P G.1 vwCl (mtw G Z o τ81) H → va_S (mA G) s.heap H locs → ∀ ls : Array Slot, lv_has ls 4 [(0, .ref (ms G o 0)), (1, .int (qOver τ nO)), (2, .int (nI k3)), (3, .int x81_3)] → W p l e ({ frames := 5, cells := 0, slots := 0, locals := 121 } : Room) s m ([.ref (ms G o 0)] : List Value).toArray below meth c H locs 0 0 (MQ below (oQ (some (.int (qOver (qHour τ (Z 2 42 0) nS nO nH) nO - qOver τ nO))) (fun H9 => va_P G.1 vwCl (mtw G Z o (qHour τ (Z 2 42 0) nS nO nH)) H9) (mA G)) ([.ref (ms G o 0)] : List Value).toArray s 0 0 (mA G)) (F0 m 81 ls []) := by
                      intro d81
                      induction d81 with
                      | zero =>
                        intro k4 hk81 x81_3 e81_3 τ81 eτ81 H locs hP hS ls hl
                        subst e81_3
                        subst eτ81
                        have hz81 : qOK (q3s (q3 (q2 (q1 τ k) k2) (Z 2 42 0) nO nH k3) (Z 2 42 0) nO k3 nH k4) nS nO nH := hz71.of (q3s_kp _ _ _ _ _ _)
                        have hk81 : k4 = qNp (q3 (q2 (q1 τ k) k2) (Z 2 42 0) nO nH k3) k3 := by omega
                        have hnp : qNp (q3s (q3 (q2 (q1 τ k) k2) (Z 2 42 0) nO nH k3) (Z 2 42 0) nO k3 nH k4) k3 = qNp (q3 (q2 (q1 τ k) k2) (Z 2 42 0) nO nH k3) k3 := by unfold qNp; rw [(q3s_kp (q3 (q2 (q1 τ k) k2) (Z 2 42 0) nO nH k3) (Z 2 42 0) nO k3 nH k4).1]
                        refine lv_iload_n hx hb dX5_pass_81 rfl (lv_at hl 3 rfl) ?_
                        refine lv_aload_n hx hb dX5_pass_82 rfl (lv_at hl 0 rfl) ?_
                        refine va_get (D := G.1) (ci := 7) (v := .ref (ms G o 1)) (C := RX5) (T := TX5) (N := 21) hx hb hts (fun w9 h9 => List.mem_cons_of_mem _ (List.mem_append_left _ (List.mem_append_right _ (h9)))) hown hK hP (3 + 18 * o + (0)) (mt_S G Z ho (q3s (q3 (q2 (q1 τ k) k2) (Z 2 42 0) nO nH k3) (Z 2 42 0) nO k3 nH k4)) rfl 2 (by decide) (hts (.fieldLink RX5 15 "OrganCensusModel$State" "pitches" "[I") (List.mem_of_getElem? (i := 7) rfl)) (fun _ h9 => h9) rfl dX5_pass_83 ?_
                        refine lv_iload_n hx hb dX5_pass_86 rfl (lv_at hl 2 rfl) ?_
                        refine o_iald (k := k3) hx hb hK hP (3 + 18 * o + (1)) 0 (mt_A1 G Z ho (q3s (q3 (q2 (q1 τ k) k2) (Z 2 42 0) nO nH k3) (Z 2 42 0) nO k3 nH k4)) rfl rfl (by omega) (by decide) dX5_pass_87 ?_
                        refine lv_icmp_ge (tgt := 103) hx hb dX5_pass_88 (by decide) (fun c88 => ?_) (fun c88 => ?_)
                        · have n88 := (o_nle (a := qNp (q3s (q3 (q2 (q1 τ k) k2) (Z 2 42 0) nO nH k3) (Z 2 42 0) nO k3 nH k4) k3) (b := k4) (hz81.2.2.2.2.2.2.1 k3 (by omega)).1 rfl (by omega) (by omega)).mp c88
                          refine lv_iinc (v := nI (k3 + 1)) (lv' := [(2, .int (nI (k3 + 1))), (0, .ref (ms G o 0)), (1, .int (qOver τ nO)), (3, .int (nI k4))]) hx hb dX5_pass_103 hl (k := 2) rfl (nI_1 k3) (by decide) rfl (fun ls hl => ?_)
                          refine lv_goto (tgt := 71) hx hb dX5_pass_106 (by decide) ?_
                          exact ih71 (k3 + 1) (by omega) _ (rfl) _ (by rw [hk81]; rfl) _ _ hP hS ls (lv_sub hl [1, 2, 0] rfl)
                        · have n88 := (mt (o_nle (a := qNp (q3s (q3 (q2 (q1 τ k) k2) (Z 2 42 0) nO nH k3) (Z 2 42 0) nO k3 nH k4) k3) (b := k4) (hz81.2.2.2.2.2.2.1 k3 (by omega)).1 rfl (by omega) (by omega)).mpr) c88; omega
                      | succ d81 ih81 =>
                        intro k4 hk81 x81_3 e81_3 τ81 eτ81 H locs hP hS ls hl
                        subst e81_3
                        subst eτ81
                        have hz81 : qOK (q3s (q3 (q2 (q1 τ k) k2) (Z 2 42 0) nO nH k3) (Z 2 42 0) nO k3 nH k4) nS nO nH := hz71.of (q3s_kp _ _ _ _ _ _)
                        have hj81 : k4 < qNp (q3 (q2 (q1 τ k) k2) (Z 2 42 0) nO nH k3) k3 := by omega
                        have hnp : qNp (q3s (q3 (q2 (q1 τ k) k2) (Z 2 42 0) nO nH k3) (Z 2 42 0) nO k3 nH k4) k3 = qNp (q3 (q2 (q1 τ k) k2) (Z 2 42 0) nO nH k3) k3 := by unfold qNp; rw [(q3s_kp (q3 (q2 (q1 τ k) k2) (Z 2 42 0) nO nH k3) (Z 2 42 0) nO k3 nH k4).1]
                        refine lv_iload_n hx hb dX5_pass_81 rfl (lv_at hl 3 rfl) ?_
                        refine lv_aload_n hx hb dX5_pass_82 rfl (lv_at hl 0 rfl) ?_
                        refine va_get (D := G.1) (ci := 7) (v := .ref (ms G o 1)) (C := RX5) (T := TX5) (N := 21) hx hb hts (fun w9 h9 => List.mem_cons_of_mem _ (List.mem_append_left _ (List.mem_append_right _ (h9)))) hown hK hP (3 + 18 * o + (0)) (mt_S G Z ho (q3s (q3 (q2 (q1 τ k) k2) (Z 2 42 0) nO nH k3) (Z 2 42 0) nO k3 nH k4)) rfl 2 (by decide) (hts (.fieldLink RX5 15 "OrganCensusModel$State" "pitches" "[I") (List.mem_of_getElem? (i := 7) rfl)) (fun _ h9 => h9) rfl dX5_pass_83 ?_
                        refine lv_iload_n hx hb dX5_pass_86 rfl (lv_at hl 2 rfl) ?_
                        refine o_iald (k := k3) hx hb hK hP (3 + 18 * o + (1)) 0 (mt_A1 G Z ho (q3s (q3 (q2 (q1 τ k) k2) (Z 2 42 0) nO nH k3) (Z 2 42 0) nO k3 nH k4)) rfl rfl (by omega) (by decide) dX5_pass_87 ?_
                        refine lv_icmp_ge (tgt := 103) hx hb dX5_pass_88 (by decide) (fun c88 => ?_) (fun c88 => ?_)
                        · have n88 := (o_nle (a := qNp (q3s (q3 (q2 (q1 τ k) k2) (Z 2 42 0) nO nH k3) (Z 2 42 0) nO k3 nH k4) k3) (b := k4) (hz81.2.2.2.2.2.2.1 k3 (by omega)).1 rfl (by omega) (by omega)).mp c88; omega
                        · have n88 := (mt (o_nle (a := qNp (q3s (q3 (q2 (q1 τ k) k2) (Z 2 42 0) nO nH k3) (Z 2 42 0) nO k3 nH k4) k3) (b := k4) (hz81.2.2.2.2.2.2.1 k3 (by omega)).1 rfl (by omega) (by omega)).mpr) c88
                          refine lv_aload_n hx hb dX5_pass_91 rfl (lv_at hl 0 rfl) ?_
                          refine lv_iload_n hx hb dX5_pass_92 rfl (lv_at hl 2 rfl) ?_
                          refine lv_iload_n hx hb dX5_pass_93 rfl (lv_at hl 3 rfl) ?_
                          refine o_cVmv (q0 := 3 + 18 * o + (0)) (ci := 7) [.int (nI k3), .int (nI k4)] [] ⟨hx, hb, hml, hown, hts⟩ (m_X5_listen l G Z ho hI (q3s (q3 (q2 (q1 τ k) k2) (Z 2 42 0) nO nH k3) (Z 2 42 0) nO k3 nH k4) nS nO nH hz81 k3 (nI k3) (rfl) (by omega) (nI k4)) (cwV 2 hts gX5_pass_X5_listen rfl rfl rfl (by decide +kernel) ⟨Nat.le_of_ble_eq_true rfl, Nat.le_of_ble_eq_true rfl⟩) hK hN hP hS rfl rfl (mt_S G Z ho (q3s (q3 (q2 (q1 τ k) k2) (Z 2 42 0) nO nH k3) (Z 2 42 0) nO k3 nH k4)) rfl hl.1 rfl (Nat.le_of_ble_eq_true rfl) dX5_pass_94 ⟨Nat.zero_le _, Nat.zero_le _⟩ (fun H locs hP hS => ?_)
                          refine lv_iinc (v := nI (k4 + 1)) (lv' := [(3, .int (nI (k4 + 1))), (0, .ref (ms G o 0)), (1, .int (qOver τ nO)), (2, .int (nI k3))]) hx hb dX5_pass_97 hl (k := 3) rfl (nI_1 k4) (by decide) rfl (fun ls hl => ?_)
                          refine lv_goto (tgt := 81) hx hb dX5_pass_100 (by decide) ?_
                          exact ih81 (k4 + 1) (by omega) _ (rfl) _ (rfl) _ _ hP hS ls (lv_sub hl [1, 2, 3, 0] rfl)
                    exact lp81 (qNp (q3 (q2 (q1 τ k) k2) (Z 2 42 0) nO nH k3) k3) 0 (by omega) _ (rfl) _ (rfl) _ _ hP hS ls (lv_sub hl [1, 2, 3, 0] rfl)
              exact lp71 (nS) 0 (by omega) _ (rfl) _ (rfl) _ _ hP hS ls (lv_sub hl [1, 2, 0] rfl)
            · have n53 := (mt (o_nle (a := 48) (b := k2) (by decide) rfl (by omega) (by omega)).mpr) c53; omega
          | succ d47 ih47 =>
            intro k2 hk47 x47_2 e47_2 τ47 eτ47 H locs hP hS ls hl
            subst e47_2
            subst eτ47
            have hz47 : qOK (q2 (q1 τ k) k2) nS nO nH := hz11.of (q2_kp _ _)
            have hj47 : k2 < 48 := by omega
            refine lv_iload_n hx hb dX5_pass_47 rfl (lv_at hl 2 rfl) ?_
            refine lv_aload_n hx hb dX5_pass_48 rfl (lv_at hl 0 rfl) ?_
            refine va_get (D := G.1) (ci := 7) (v := .ref (ms G o 17)) (C := RX5) (T := TX5) (N := 21) hx hb hts (fun w9 h9 => List.mem_cons_of_mem _ (List.mem_append_left _ (List.mem_append_right _ (h9)))) hown hK hP (3 + 18 * o + (0)) (mt_S G Z ho (q2 (q1 τ k) k2)) rfl 19 (by decide) (hts (.fieldLink RX5 65 "OrganCensusModel$State" "isNew" "[Z") (List.mem_of_getElem? (i := 5) rfl)) (fun _ h9 => h9) rfl dX5_pass_49 ?_
            refine va_alen (v := 48) hx hb hK hP (3 + 18 * o + (17)) 4 (mt_A17 G Z ho (q2 (q1 τ k) k2)) rfl (show Int32.ofNat 48 = 48 by decide) dX5_pass_52 ?_
            refine lv_icmp_ge (tgt := 69) hx hb dX5_pass_53 (by decide) (fun c53 => ?_) (fun c53 => ?_)
            · have n53 := (o_nle (a := 48) (b := k2) (by decide) rfl (by omega) (by omega)).mp c53; omega
            · have n53 := (mt (o_nle (a := 48) (b := k2) (by decide) rfl (by omega) (by omega)).mpr) c53
              refine lv_aload_n hx hb dX5_pass_56 rfl (lv_at hl 0 rfl) ?_
              refine va_get (D := G.1) (ci := 7) (v := .ref (ms G o 17)) (C := RX5) (T := TX5) (N := 21) hx hb hts (fun w9 h9 => List.mem_cons_of_mem _ (List.mem_append_left _ (List.mem_append_right _ (h9)))) hown hK hP (3 + 18 * o + (0)) (mt_S G Z ho (q2 (q1 τ k) k2)) rfl 19 (by decide) (hts (.fieldLink RX5 65 "OrganCensusModel$State" "isNew" "[Z") (List.mem_of_getElem? (i := 5) rfl)) (fun _ h9 => h9) rfl dX5_pass_57 ?_
              refine lv_iload_n hx hb dX5_pass_60 rfl (lv_at hl 2 rfl) ?_
              refine lv_iconst (v := 0) hx hb dX5_pass_61 (by decide) ?_
              refine o_zast (k := k2) hx hb hK hP (mt_D G Z o _ hI) hS (3 + 18 * o + (17)) 4 (mt_A17 G Z ho (q2 (q1 τ k) k2)) rfl rfl (by omega) (by decide) (by decide) dX5_pass_62 (fun H locs hP hD hS => ?_)
              have hP : va_P G.1 vwCl (mtw G Z o (su (q2 (q1 τ k) k2) 17 0 k2 0)) H := by rw [← mt_uA17 G Z ho (q2 (q1 τ k) k2) k2 0]; exact hP
              clear hD
              refine lv_iinc (v := nI (k2 + 1)) (lv' := [(2, .int (nI (k2 + 1))), (0, .ref (ms G o 0)), (1, .int (qOver τ nO))]) hx hb dX5_pass_63 hl (k := 2) rfl (nI_1 k2) (by decide) rfl (fun ls hl => ?_)
              refine lv_goto (tgt := 47) hx hb dX5_pass_66 (by decide) ?_
              exact ih47 (k2 + 1) (by omega) _ (rfl) _ (rfl) _ _ hP hS ls (lv_sub hl [1, 2, 0] rfl)
        exact lp47 (48) 0 (by omega) _ (rfl) _ (rfl) _ _ hP hS ls (lv_sub hl [1, 2, 0] rfl)
      · have n16 := (mt (o_nle (a := nO) (b := k) hz11.2.2.1 rfl (by omega) (by omega)).mpr) c16; omega
    | succ d11 ih11 =>
      intro k hk11 x11_2 e11_2 τ11 eτ11 H locs hP hS ls hl
      subst e11_2
      subst eτ11
      have hz11 : qOK (q1 τ k) nS nO nH := hz.of (q1_kp _ _)
      have hj11 : k < nO := by omega
      refine lv_iload_n hx hb dX5_pass_11 rfl (lv_at hl 2 rfl) ?_
      refine lv_aload_n hx hb dX5_pass_12 rfl (lv_at hl 0 rfl) ?_
      refine va_get (D := G.1) (ci := 7) (v := .int ((q1 τ k) 40 0 2)) (C := RX5) (T := TX5) (N := 21) hx hb hts (fun w9 h9 => List.mem_cons_of_mem _ (List.mem_append_left _ (List.mem_append_right _ (h9)))) hown hK hP (3 + 18 * o + (0)) (mt_S G Z ho (q1 τ k)) rfl 7 (by decide) (hts (.fieldLink RX5 81 "OrganCensusModel$State" "organs" "I") (List.mem_of_getElem? (i := 2) rfl)) (fun _ h9 => h9) rfl dX5_pass_13 ?_
      refine lv_icmp_ge (tgt := 45) hx hb dX5_pass_16 (by decide) (fun c16 => ?_) (fun c16 => ?_)
      · have n16 := (o_nle (a := nO) (b := k) hz11.2.2.1 rfl (by omega) (by omega)).mp c16; omega
      · have n16 := (mt (o_nle (a := nO) (b := k) hz11.2.2.1 rfl (by omega) (by omega)).mpr) c16
        refine lv_aload_n hx hb dX5_pass_19 rfl (lv_at hl 0 rfl) ?_
        refine va_get (D := G.1) (ci := 7) (v := .ref (ms G o 16)) (C := RX5) (T := TX5) (N := 21) hx hb hts (fun w9 h9 => List.mem_cons_of_mem _ (List.mem_append_left _ (List.mem_append_right _ (h9)))) hown hK hP (3 + 18 * o + (0)) (mt_S G Z ho (q1 τ k)) rfl 18 (by decide) (hts (.fieldLink RX5 61 "OrganCensusModel$State" "went" "[Z") (List.mem_of_getElem? (i := 3) rfl)) (fun _ h9 => h9) rfl dX5_pass_20 ?_
        refine lv_iload_n hx hb dX5_pass_23 rfl (lv_at hl 2 rfl) ?_
        refine lv_aload_n hx hb dX5_pass_24 rfl (lv_at hl 0 rfl) ?_
        refine va_get (D := G.1) (ci := 7) (v := .ref (ms G o 8)) (C := RX5) (T := TX5) (N := 21) hx hb hts (fun w9 h9 => List.mem_cons_of_mem _ (List.mem_append_left _ (List.mem_append_right _ (h9)))) hown hK hP (3 + 18 * o + (0)) (mt_S G Z ho (q1 τ k)) rfl 10 (by decide) (hts (.fieldLink RX5 37 "OrganCensusModel$State" "left" "[I") (List.mem_of_getElem? (i := 4) rfl)) (fun _ h9 => h9) rfl dX5_pass_25 ?_
        refine lv_iload_n hx hb dX5_pass_28 rfl (lv_at hl 2 rfl) ?_
        refine o_iald (k := k) hx hb hK hP (3 + 18 * o + (8)) 0 (mt_A8 G Z ho (q1 τ k)) rfl rfl (by omega) (by decide) dX5_pass_29 ?_
        refine lv_if_le (tgt := 37) hx hb dX5_pass_30 (by decide) (fun c30 => ?_) (fun c30 => ?_)
        · refine lv_iconst (v := 0) hx hb dX5_pass_37 (by decide) ?_
          refine o_zast (k := k) hx hb hK hP (mt_D G Z o _ hI) hS (3 + 18 * o + (16)) 4 (mt_A16 G Z ho (q1 τ k)) rfl rfl (by omega) (by decide) (by decide) dX5_pass_38 (fun H locs hP hD hS => ?_)
          have hP : va_P G.1 vwCl (mtw G Z o (su (q1 τ k) 16 0 k 0)) H := by rw [← mt_uA16 G Z ho (q1 τ k) k 0]; exact hP
          clear hD
          refine lv_iinc (v := nI (k + 1)) (lv' := [(2, .int (nI (k + 1))), (0, .ref (ms G o 0)), (1, .int (qOver τ nO))]) hx hb dX5_pass_39 hl (k := 2) rfl (nI_1 k) (by decide) rfl (fun ls hl => ?_)
          refine lv_goto (tgt := 11) hx hb dX5_pass_42 (by decide) ?_
          exact ih11 (k + 1) (by omega) _ (rfl) _ (by simp [q1, bI, c16, c30]) _ _ hP hS ls (lv_sub hl [1, 2, 0] rfl)
        · refine lv_iconst (v := 1) hx hb dX5_pass_33 (by decide) ?_
          refine lv_goto (tgt := 38) hx hb dX5_pass_34 (by decide) ?_
          refine o_zast (k := k) hx hb hK hP (mt_D G Z o _ hI) hS (3 + 18 * o + (16)) 4 (mt_A16 G Z ho (q1 τ k)) rfl rfl (by omega) (by decide) (by decide) dX5_pass_38 (fun H locs hP hD hS => ?_)
          have hP : va_P G.1 vwCl (mtw G Z o (su (q1 τ k) 16 0 k 1)) H := by rw [← mt_uA16 G Z ho (q1 τ k) k 1]; exact hP
          clear hD
          refine lv_iinc (v := nI (k + 1)) (lv' := [(2, .int (nI (k + 1))), (0, .ref (ms G o 0)), (1, .int (qOver τ nO))]) hx hb dX5_pass_39 hl (k := 2) rfl (nI_1 k) (by decide) rfl (fun ls hl => ?_)
          refine lv_goto (tgt := 11) hx hb dX5_pass_42 (by decide) ?_
          exact ih11 (k + 1) (by omega) _ (rfl) _ (by simp [q1, bI, c16, c30]) _ _ hP hS ls (lv_sub hl [1, 2, 0] rfl)
  exact lp11 (nO) 0 (by omega) _ (rfl) _ (rfl) _ _ hP hS ls (lv_sub hl [2, 1, 0] rfl)
