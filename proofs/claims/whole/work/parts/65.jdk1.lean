set_option maxHeartbeats 4000000 in
set_option maxRecDepth 100000 in
theorem m_J5_isLatin1_aae02 (l : Launch) (G : oG) (b v : Nat) (hbv : b ≠ v) (c : Int32) (f : Nat → Int32) (sz a w k : Nat) (t : Nat → Int32) (t1 t2 : Nat) : Met l yJ5_isLatin1_aae02 wsJ5_isLatin1_aae02 ({ frames := 0, cells := 0, slots := 0, locals := 0 } : Room) (va_Pc [.ref b] (PB G (bw G b v c f) sz a w k t t1 t2 bF)) (oQ (some (.int 1)) (fun H9 => va_P G.1 vwCl (bw G b v c f) H9) bF) 0 0 bF := by
  refine oB_body (cc := cJ5_isLatin1_aae02) (by decide +kernel) rfl (Nat.le_of_ble_eq_true rfl) ?_
  intro p e s m below meth c9 ls hx hb hml hr hlocks hown hts hP hK hN hE hz hl
  have hown : s.vm.findClass RJ5 = some m.cls := hown
  have hl : lv_has ls 1 [(0, .ref b)] := hl
  have hS : va_S bF s.heap s.heap [] := va_S.rf
  refine va_gets hx hb hE.1.1 hS hown (hts (.fieldLink RJ5 18 "java/lang/String" "COMPACT_STRINGS" "Z") (List.mem_of_getElem? (i := 1) rfl)) (fun _ h9 => h9) dJ5_isLatin1_aae02_0 ?_
  refine lv_if_eq (tgt := 17) hx hb dJ5_isLatin1_aae02_3 (by decide) (fun c3 => ?_) (fun c3 => ?_)
  · exact absurd c3 (by decide)
  · refine lv_aload_n hx hb dJ5_isLatin1_aae02_6 rfl (lv_at hl 0 rfl) ?_
    refine va_get (D := G.1) (ci := 1) (v := .int 0) (C := RJ4) (T := TJ4) (N := 4) hx hb hts (fun w9 h9 => List.mem_cons_of_mem _ (List.mem_append_right _ (h9))) hown hK hP (0) (bw_0 G b v c f) rfl 1 (by decide) (hts (.fieldLink RJ5 22 "java/lang/AbstractStringBuilder" "coder" "B") (List.mem_of_getElem? (i := 2) rfl)) (fun _ h9 => h9) rfl dJ5_isLatin1_aae02_7 ?_
    refine lv_if_ne (tgt := 17) hx hb dJ5_isLatin1_aae02_10 (by decide) (fun c10 => ?_) (fun c10 => ?_)
    · exact absurd rfl c10
    · refine lv_iconst (v := 1) hx hb dJ5_isLatin1_aae02_13 (by decide) ?_
      refine lv_goto (tgt := 18) hx hb dJ5_isLatin1_aae02_14 (by decide) ?_
      exact o_zretM hx hb hr hlocks hS dJ5_isLatin1_aae02_18 (by first | exact Or.inl rfl | exact Or.inr rfl) (hP) (rfl)
set_option maxHeartbeats 4000000 in
set_option maxRecDepth 100000 in
theorem m_J5_length_8abf5 (l : Launch) (G : oG) (b v : Nat) (hbv : b ≠ v) (c : Int32) (f : Nat → Int32) (sz a w k : Nat) (t : Nat → Int32) (t1 t2 : Nat) : Met l yJ5_length_8abf5 wsJ5_length_8abf5 ({ frames := 0, cells := 0, slots := 0, locals := 0 } : Room) (va_Pc [.ref b] (PB G (bw G b v c f) sz a w k t t1 t2 bF)) (oQ (some (.int c)) (fun H9 => va_P G.1 vwCl (bw G b v c f) H9) bF) 0 0 bF := by
  refine oB_body (cc := cJ5_length_8abf5) (by decide +kernel) rfl (Nat.le_of_ble_eq_true rfl) ?_
  intro p e s m below meth c9 ls hx hb hml hr hlocks hown hts hP hK hN hE hz hl
  have hown : s.vm.findClass RJ5 = some m.cls := hown
  have hl : lv_has ls 1 [(0, .ref b)] := hl
  have hS : va_S bF s.heap s.heap [] := va_S.rf
  refine lv_aload_n hx hb dJ5_length_8abf5_0 rfl (lv_at hl 0 rfl) ?_
  refine va_get (D := G.1) (ci := 1) (v := .int c) (C := RJ4) (T := TJ4) (N := 4) hx hb hts (fun w9 h9 => List.mem_cons_of_mem _ (List.mem_append_right _ (h9))) hown hK hP (0) (bw_0 G b v c f) rfl 3 (by decide) (hts (.fieldLink RJ5 79 "java/lang/AbstractStringBuilder" "count" "I") (List.mem_of_getElem? (i := 1) rfl)) (fun _ h9 => h9) rfl dJ5_length_8abf5_1 ?_
  exact o_iretM hx hb hr hlocks hS dJ5_length_8abf5_4 (hP) (rfl)
set_option maxHeartbeats 4000000 in
set_option maxRecDepth 100000 in
theorem m_J5_getValue_6d5f1 (l : Launch) (G : oG) (b v : Nat) (hbv : b ≠ v) (c : Int32) (f : Nat → Int32) (sz a w k : Nat) (t : Nat → Int32) (t1 t2 : Nat) : Met l yJ5_getValue_6d5f1 wsJ5_getValue_6d5f1 ({ frames := 0, cells := 0, slots := 0, locals := 0 } : Room) (va_Pc [.ref b] (PB G (bw G b v c f) sz a w k t t1 t2 bF)) (oQ (some (.ref v)) (fun H9 => va_P G.1 vwCl (bw G b v c f) H9) bF) 0 0 bF := by
  refine oB_body (cc := cJ5_getValue_6d5f1) (by decide +kernel) rfl (Nat.le_of_ble_eq_true rfl) ?_
  intro p e s m below meth c9 ls hx hb hml hr hlocks hown hts hP hK hN hE hz hl
  have hown : s.vm.findClass RJ5 = some m.cls := hown
  have hl : lv_has ls 1 [(0, .ref b)] := hl
  have hS : va_S bF s.heap s.heap [] := va_S.rf
  refine lv_aload_n hx hb dJ5_getValue_6d5f1_0 rfl (lv_at hl 0 rfl) ?_
  refine va_get (D := G.1) (ci := 1) (v := .ref v) (C := RJ4) (T := TJ4) (N := 4) hx hb hts (fun w9 h9 => List.mem_cons_of_mem _ (List.mem_append_right _ (h9))) hown hK hP (0) (bw_0 G b v c f) rfl 0 (by decide) (hts (.fieldLink RJ5 15 "java/lang/AbstractStringBuilder" "value" "[B") (List.mem_of_getElem? (i := 1) rfl)) (fun _ h9 => h9) rfl dJ5_getValue_6d5f1_1 ?_
  exact o_aretM hx hb hr (by first | exact Or.inl ⟨_, rfl⟩ | exact Or.inr ⟨_, rfl⟩) hlocks hS dJ5_getValue_6d5f1_4 (hP)
set_option maxHeartbeats 4000000 in
set_option maxRecDepth 100000 in
theorem m_J5_ensureCapacityInternal_d00df (l : Launch) (G : oG) (b v : Nat) (hbv : b ≠ v) (c : Int32) (f : Nat → Int32) (sz a w k : Nat) (t : Nat → Int32) (t1 t2 : Nat) (q : Nat) (hq : q ≤ 16) : Met l yJ5_ensureCapacityInternal_d00df wsJ5_ensureCapacityInternal_d00df ({ frames := 0, cells := 0, slots := 0, locals := 0 } : Room) (va_Pc [.ref b, .int (nI q)] (PB G (bw G b v c f) sz a w k t t1 t2 bF)) (oQ none (fun H9 => va_P G.1 vwCl (bw G b v c f) H9) bF) 0 0 bF := by
  refine oB_body (cc := cJ5_ensureCapacityInternal_d00df) (by decide +kernel) rfl (Nat.le_of_ble_eq_true rfl) ?_
  intro p e s m below meth c9 ls hx hb hml hr hlocks hown hts hP hK hN hE hz hl
  have hown : s.vm.findClass RJ5 = some m.cls := hown
  have hl : lv_has ls 3 [(0, .ref b), (1, .int (nI q))] := hl
  have hS : va_S bF s.heap s.heap [] := va_S.rf
  refine lv_aload_n hx hb dJ5_ensureCapacityInternal_d00df_0 rfl (lv_at hl 0 rfl) ?_
  refine va_get (D := G.1) (ci := 1) (v := .ref v) (C := RJ4) (T := TJ4) (N := 4) hx hb hts (fun w9 h9 => List.mem_cons_of_mem _ (List.mem_append_right _ (h9))) hown hK hP (0) (bw_0 G b v c f) rfl 0 (by decide) (hts (.fieldLink RJ5 15 "java/lang/AbstractStringBuilder" "value" "[B") (List.mem_of_getElem? (i := 1) rfl)) (fun _ h9 => h9) rfl dJ5_ensureCapacityInternal_d00df_1 ?_
  refine va_alen (v := 16) hx hb hK hP (1) 3 (bw_1 G b v c f) rfl (show Int32.ofNat 16 = 16 by decide) dJ5_ensureCapacityInternal_d00df_4 ?_
  refine lv_aload_n hx hb dJ5_ensureCapacityInternal_d00df_5 rfl (lv_at hl 0 rfl) ?_
  refine va_get (D := G.1) (ci := 1) (v := .int 0) (C := RJ4) (T := TJ4) (N := 4) hx hb hts (fun w9 h9 => List.mem_cons_of_mem _ (List.mem_append_right _ (h9))) hown hK hP (0) (bw_0 G b v c f) rfl 1 (by decide) (hts (.fieldLink RJ5 22 "java/lang/AbstractStringBuilder" "coder" "B") (List.mem_of_getElem? (i := 2) rfl)) (fun _ h9 => h9) rfl dJ5_ensureCapacityInternal_d00df_6 ?_
  refine lv_ishr hx hb dJ5_ensureCapacityInternal_d00df_9 ?_
  rw [show (16 : Int32) >>> ((0 : Int32) &&& 31) = 16 by decide]
  refine lv_istore_n (lv' := [(2, .int 16), (0, .ref b), (1, .int (nI q))]) hx hb dJ5_ensureCapacityInternal_d00df_10 rfl hl (by decide) rfl (fun ls hl => ?_)
  refine lv_iload_n hx hb dJ5_ensureCapacityInternal_d00df_11 rfl (lv_at hl 2 rfl) ?_
  refine lv_iload_n hx hb dJ5_ensureCapacityInternal_d00df_12 rfl (lv_at hl 0 rfl) ?_
  refine lv_isub hx hb dJ5_ensureCapacityInternal_d00df_13 ?_
  refine lv_if_le (tgt := 38) hx hb dJ5_ensureCapacityInternal_d00df_14 (by decide) (fun c14 => ?_) (fun c14 => ?_)
  · exact o_vretM hx hb hr hlocks hS dJ5_ensureCapacityInternal_d00df_38 (hP)
  · exact absurd (show nI q - 16 ≤ 0 from o_sub16 hq) c14
set_option maxHeartbeats 4000000 in
set_option maxRecDepth 100000 in
theorem m_J6_stringSize_0f7a4 (l : Launch) (G : oG) (b v : Nat) (hbv : b ≠ v) (c : Int32) (f : Nat → Int32) (sz a w k : Nat) (t : Nat → Int32) (t1 t2 : Nat) (u : Nat) (hu : u < 2 ^ 31) : Met l yJ6_stringSize_0f7a4 wsJ6_stringSize_0f7a4 ({ frames := 0, cells := 0, slots := 0, locals := 0 } : Room) (va_Pc [.int (nI u)] (PB G (bw G b v c f) sz a w k t t1 t2 bF)) (oQ (some (.int (nI (sD u)))) (fun H9 => va_P G.1 vwCl (bw G b v c f) H9) bF) 0 0 bF := by
  refine oB_body (cc := cJ6_stringSize_0f7a4) (by decide +kernel) rfl (Nat.le_of_ble_eq_true rfl) ?_
  intro p e s m below meth c9 ls hx hb hml hr hlocks hown hts hP hK hN hE hz hl
  have hown : s.vm.findClass RJ6 = some m.cls := hown
  have hl : lv_has ls 4 [(0, .int (nI u))] := hl
  have hS : va_S bF s.heap s.heap [] := va_S.rf
  have hd1 := sD_pos u
  have hd2 := sD_10 hu
  refine lv_iconst (v := 1) hx hb dJ6_stringSize_0f7a4_0 (by decide) ?_
  refine lv_istore_n (lv' := [(1, .int 1), (0, .int (nI u))]) hx hb dJ6_stringSize_0f7a4_1 rfl hl (by decide) rfl (fun ls hl => ?_)
  refine lv_iload_n hx hb dJ6_stringSize_0f7a4_2 rfl (lv_at hl 1 rfl) ?_
  refine lv_if_lt (tgt := 11) hx hb dJ6_stringSize_0f7a4_3 (by decide) (fun c3 => ?_) (fun c3 => ?_)
  · exact absurd c3 (nI_pos hu)
  · refine lv_iconst (v := 0) hx hb dJ6_stringSize_0f7a4_6 (by decide) ?_
    refine lv_istore_n (lv' := [(1, .int 0), (0, .int (nI u))]) hx hb dJ6_stringSize_0f7a4_7 rfl hl (by decide) rfl (fun ls hl => ?_)
    refine lv_iload_n hx hb dJ6_stringSize_0f7a4_8 rfl (lv_at hl 1 rfl) ?_
    refine lv_ineg hx hb dJ6_stringSize_0f7a4_9 ?_
    refine lv_istore_n (lv' := [(0, .int (-(nI u))), (1, .int 0)]) hx hb dJ6_stringSize_0f7a4_10 rfl hl (by decide) rfl (fun ls hl => ?_)
    refine lv_bipush (v := (-10)) hx hb dJ6_stringSize_0f7a4_11 (by decide) ?_
    refine lv_istore_n (lv' := [(2, .int ((-10))), (0, .int (-(nI u))), (1, .int 0)]) hx hb dJ6_stringSize_0f7a4_13 rfl hl (by decide) rfl (fun ls hl => ?_)
    refine lv_iconst (v := 1) hx hb dJ6_stringSize_0f7a4_14 (by decide) ?_
    refine lv_istore_n (lv' := [(3, .int 1), (2, .int ((-10))), (0, .int (-(nI u))), (1, .int 0)]) hx hb dJ6_stringSize_0f7a4_15 rfl hl (by decide) rfl (fun ls hl => ?_)
    have lp16 : ∀ (d16 j : Nat), j + d16 = sD u → ∀ x16_2 : Int32, x16_2 = (-(nI (10 ^ j))) → ∀ x16_3 : Int32, x16_3 = (nI j) → (1 ≤ j) → ∀ ls : Array Slot, lv_has ls 4 [(0, .int (-(nI u))), (1, .int 0), (2, .int x16_2), (3, .int x16_3)] → W p l e ({ frames := 0, cells := 0, slots := 0, locals := 0 } : Room) s m ([.int (nI u)] : List Value).toArray below meth c9 s.heap [] 0 0 (MQ below (oQ (some (.int (nI (sD u)))) (fun H9 => va_P G.1 vwCl (bw G b v c f) H9) bF) ([.int (nI u)] : List Value).toArray s 0 0 bF) (F0 m 16 ls []) := by
      intro d16
      induction d16 with
      | zero =>
        intro j hk16 x16_2 e16_2 x16_3 e16_3 hj1 ls hl
        subst e16_2
        subst e16_3
        have hk16 : j = sD u := by omega
        have hlt : u < 10 ^ j := by rw [hk16]; exact sD_lt hu
        refine lv_iload_n hx hb dJ6_stringSize_0f7a4_16 rfl (lv_at hl 3 rfl) ?_
        refine lv_bipush (v := 10) hx hb dJ6_stringSize_0f7a4_17 (by decide) ?_
        refine lv_icmp_ge (tgt := 42) hx hb dJ6_stringSize_0f7a4_19 (by decide) (fun c19 => ?_) (fun c19 => ?_)
        · have n19 := (o_nle (a := 10) (b := j) (by decide) rfl (by omega) (by omega)).mp c19
          refine lv_bipush (v := 10) hx hb dJ6_stringSize_0f7a4_42 (by decide) ?_
          refine lv_iload_n hx hb dJ6_stringSize_0f7a4_44 rfl (lv_at hl 1 rfl) ?_
          refine lv_iadd hx hb dJ6_stringSize_0f7a4_45 ?_
          exact o_iretM hx hb hr hlocks hS dJ6_stringSize_0f7a4_46 (hP) (by first | (rw [show sD u = 10 by omega]; decide) | (rw [← hk16]; exact Int32.add_zero _))
        · have n19 := (mt (o_nle (a := 10) (b := j) (by decide) rfl (by omega) (by omega)).mpr) c19
          refine lv_iload_n hx hb dJ6_stringSize_0f7a4_22 rfl (lv_at hl 0 rfl) ?_
          refine lv_iload_n hx hb dJ6_stringSize_0f7a4_23 rfl (lv_at hl 2 rfl) ?_
          refine lv_icmp_le (tgt := 31) hx hb dJ6_stringSize_0f7a4_24 (by decide) (fun c24 => ?_) (fun c24 => ?_)
          · exact absurd ((o_neg_le hu (o_p31 (by omega))).mp c24) (by omega)
          · refine lv_iload_n hx hb dJ6_stringSize_0f7a4_27 rfl (lv_at hl 3 rfl) ?_
            refine lv_iload_n hx hb dJ6_stringSize_0f7a4_28 rfl (lv_at hl 1 rfl) ?_
            refine lv_iadd hx hb dJ6_stringSize_0f7a4_29 ?_
            exact o_iretM hx hb hr hlocks hS dJ6_stringSize_0f7a4_30 (hP) (by first | (rw [show sD u = 10 by omega]; decide) | (rw [← hk16]; exact Int32.add_zero _))
      | succ d16 ih16 =>
        intro j hk16 x16_2 e16_2 x16_3 e16_3 hj1 ls hl
        subst e16_2
        subst e16_3
        have hj16 : j < sD u := by omega
        have hge : 10 ^ j ≤ u := sD_ge hu hj1 (by omega)
        refine lv_iload_n hx hb dJ6_stringSize_0f7a4_16 rfl (lv_at hl 3 rfl) ?_
        refine lv_bipush (v := 10) hx hb dJ6_stringSize_0f7a4_17 (by decide) ?_
        refine lv_icmp_ge (tgt := 42) hx hb dJ6_stringSize_0f7a4_19 (by decide) (fun c19 => ?_) (fun c19 => ?_)
        · have n19 := (o_nle (a := 10) (b := j) (by decide) rfl (by omega) (by omega)).mp c19
          refine lv_bipush (v := 10) hx hb dJ6_stringSize_0f7a4_42 (by decide) ?_
          refine lv_iload_n hx hb dJ6_stringSize_0f7a4_44 rfl (lv_at hl 1 rfl) ?_
          refine lv_iadd hx hb dJ6_stringSize_0f7a4_45 ?_
          exact o_iretM hx hb hr hlocks hS dJ6_stringSize_0f7a4_46 (hP) (by first | (rw [show sD u = 10 by omega]; decide) | (rw [← hk16]; exact Int32.add_zero _))
        · have n19 := (mt (o_nle (a := 10) (b := j) (by decide) rfl (by omega) (by omega)).mpr) c19
          refine lv_iload_n hx hb dJ6_stringSize_0f7a4_22 rfl (lv_at hl 0 rfl) ?_
          refine lv_iload_n hx hb dJ6_stringSize_0f7a4_23 rfl (lv_at hl 2 rfl) ?_
          refine lv_icmp_le (tgt := 31) hx hb dJ6_stringSize_0f7a4_24 (by decide) (fun c24 => ?_) (fun c24 => ?_)
          · refine lv_bipush (v := 10) hx hb dJ6_stringSize_0f7a4_31 (by decide) ?_
            refine lv_iload_n hx hb dJ6_stringSize_0f7a4_33 rfl (lv_at hl 2 rfl) ?_
            refine lv_imul hx hb dJ6_stringSize_0f7a4_34 ?_
            refine lv_istore_n (lv' := [(2, .int (10 * (-(nI (10 ^ j))))), (0, .int (-(nI u))), (1, .int 0), (3, .int (nI j))]) hx hb dJ6_stringSize_0f7a4_35 rfl hl (by decide) rfl (fun ls hl => ?_)
            refine lv_iinc (v := nI (j + 1)) (lv' := [(3, .int (nI (j + 1))), (2, .int (10 * (-(nI (10 ^ j))))), (0, .int (-(nI u))), (1, .int 0)]) hx hb dJ6_stringSize_0f7a4_36 hl (k := 3) rfl (nI_1 j) (by decide) rfl (fun ls hl => ?_)
            refine lv_goto (tgt := 16) hx hb dJ6_stringSize_0f7a4_39 (by decide) ?_
            exact ih16 (j + 1) (by omega) _ (o_negp j) _ (rfl) (by omega) ls (lv_sub hl [2, 3, 1, 0] rfl)
          · exact absurd ((o_neg_le hu (o_p31 (by omega))).mpr hge) c24
    exact lp16 (sD u - 1) 1 (by omega) _ (by decide) _ (rfl) (Nat.le_refl 1) ls (lv_sub hl [2, 3, 1, 0] rfl)
set_option maxHeartbeats 4000000 in
set_option maxRecDepth 100000 in
theorem m_J6_getChars_ba4f3 (l : Launch) (G : oG) (b v : Nat) (hbv : b ≠ v) (c : Int32) (f : Nat → Int32) (sz a w k : Nat) (t : Nat → Int32) (t1 t2 : Nat) (u : Nat) (ee : Nat) (hu : u < 2 ^ 31) (he : sD u ≤ ee ∧ ee ≤ 16) : Met l yJ6_getChars_ba4f3 wsJ6_getChars_ba4f3 ({ frames := 0, cells := 0, slots := 0, locals := 0 } : Room) (va_Pc [.int (nI u), .int (nI ee), .ref v] (PB G (bw G b v c f) sz a w k t t1 t2 (bA b v))) (oQ (some (.int (nI (ee - sD u)))) (fun H9 => va_P G.1 vwCl (bw G b v c (dP f ee u (sD u))) H9) (bA b v)) 0 0 (bA b v) := by
  refine oB_body (cc := cJ6_getChars_ba4f3) (by decide +kernel) rfl (Nat.le_of_ble_eq_true rfl) ?_
  intro p e s m below meth c9 ls hx hb hml hr hlocks hown hts hP hK hN hE hz hl
  have hown : s.vm.findClass RJ6 = some m.cls := hown
  have hl : lv_has ls 7 [(0, .int (nI u)), (1, .int (nI ee)), (2, .ref v)] := hl
  have hS : va_S (bA b v) s.heap s.heap [] := va_S.rf
  have hd1 := sD_pos u
  obtain ⟨he1, he2⟩ := he
  refine lv_iload_n hx hb dJ6_getChars_ba4f3_0 rfl (lv_at hl 1 rfl) ?_
  refine lv_istore (lv' := [(5, .int (nI ee)), (0, .int (nI u)), (1, .int (nI ee)), (2, .ref v)]) hx hb dJ6_getChars_ba4f3_1 hl (by decide) rfl (fun ls hl => ?_)
  refine lv_iload_n hx hb dJ6_getChars_ba4f3_3 rfl (lv_at hl 1 rfl) ?_
  refine lv_if_ge (tgt := 11) hx hb dJ6_getChars_ba4f3_4 (by decide) (fun c4 => ?_) (fun c4 => ?_)
  · refine lv_iconst (v := 0) hx hb dJ6_getChars_ba4f3_11 (by decide) ?_
    refine lv_istore (lv' := [(6, .int 0), (5, .int (nI ee)), (0, .int (nI u)), (1, .int (nI ee)), (2, .ref v)]) hx hb dJ6_getChars_ba4f3_12 hl (by decide) rfl (fun ls hl => ?_)
    refine lv_iload hx hb dJ6_getChars_ba4f3_14 (lv_at hl 0 rfl) ?_
    refine lv_if_ne (tgt := 22) hx hb dJ6_getChars_ba4f3_16 (by decide) (fun c16 => ?_) (fun c16 => ?_)
    · exact absurd rfl c16
    · refine lv_iload_n hx hb dJ6_getChars_ba4f3_19 rfl (lv_at hl 2 rfl) ?_
      refine lv_ineg hx hb dJ6_getChars_ba4f3_20 ?_
      refine lv_istore_n (lv' := [(0, .int (-(nI u))), (6, .int 0), (5, .int (nI ee)), (1, .int (nI ee)), (2, .ref v)]) hx hb dJ6_getChars_ba4f3_21 rfl hl (by decide) rfl (fun ls hl => ?_)
      have lp22 : ∀ (d22 j : Nat), j + d22 = (sD u - 1) / 2 → ∀ x22_0 : Int32, x22_0 = (-(nI (u / 100 ^ j))) → ∀ x22_5 : Int32, x22_5 = (nI (ee - 2 * j)) → ∀ (τ22 : Nat → Int32), τ22 = (dP f ee u (2 * j)) → ∀ (H : Heap) (locs : List Loc), va_P G.1 vwCl (bw G b v c τ22) H → va_S (bA b v) s.heap H locs → ∀ ls : Array Slot, lv_has ls 7 [(1, .int (nI ee)), (2, .ref v), (6, .int 0), (0, .int x22_0), (5, .int x22_5)] → W p l e ({ frames := 0, cells := 0, slots := 0, locals := 0 } : Room) s m ([.int (nI u), .int (nI ee), .ref v] : List Value).toArray below meth c9 H locs 0 0 (MQ below (oQ (some (.int (nI (ee - sD u)))) (fun H9 => va_P G.1 vwCl (bw G b v c (dP f ee u (sD u))) H9) (bA b v)) ([.int (nI u), .int (nI ee), .ref v] : List Value).toArray s 0 0 (bA b v)) (F0 m 22 ls []) := by
        intro d22
        induction d22 with
        | zero =>
          intro j hk22 x22_0 e22_0 x22_5 e22_5 τ22 eτ22 H locs hP hS ls hl
          subst e22_0
          subst e22_5
          subst eτ22
          have hk22 : j = (sD u - 1) / 2 := by omega
          obtain ⟨hlt, h9a, h9b⟩ := o_100lt hu hk22
          have hx3 := o_100b j hu
          refine lv_iload_n hx hb dJ6_getChars_ba4f3_22 rfl (lv_at hl 3 rfl) ?_
          refine lv_bipush (v := (-100)) hx hb dJ6_getChars_ba4f3_23 (by decide) ?_
          refine lv_icmp_gt (tgt := 72) hx hb dJ6_getChars_ba4f3_25 (by decide) (fun c25 => ?_) (fun c25 => ?_)
          · refine lv_aload_n hx hb dJ6_getChars_ba4f3_72 rfl (lv_at hl 1 rfl) ?_
            refine lv_iinc (v := nI (ee - 2 * j - 1)) (lv' := [(5, .int (nI (ee - 2 * j - 1))), (1, .int (nI ee)), (2, .ref v), (6, .int 0), (0, .int (-(nI (u / 100 ^ j))))]) hx hb dJ6_getChars_ba4f3_73 hl (k := 4) rfl (o_dec1 (by omega)) (by decide) rfl (fun ls hl => ?_)
            refine lv_iload hx hb dJ6_getChars_ba4f3_76 (lv_at hl 0 rfl) ?_
            refine va_gets hx hb hE.2.1.1 hS hown (hts (.fieldLink RJ6 83 "java/lang/Integer" "DigitOnes" "[B") (List.mem_of_getElem? (i := 1) rfl)) (fun _ h9 => h9) dJ6_getChars_ba4f3_78 ?_
            refine lv_iload_n hx hb dJ6_getChars_ba4f3_81 rfl (lv_at hl 4 rfl) ?_
            refine lv_ineg hx hb dJ6_getChars_ba4f3_82 ?_
            rw [show -(-(nI (u / 100 ^ j))) = nI (u / 100 ^ j) from Int32.neg_neg]
            refine va_tb (v := .int (nI (48 + (u / 100 ^ j) % 10))) hx hb hE.2.1.2.1 hS (vp_in_nI (show u / 100 ^ j < 100 by omega) (by decide)) (by rw [nI_clamp (show u / 100 ^ j < 2 ^ 31 by omega)]) dJ6_getChars_ba4f3_83 ?_
            refine o_bast (k := ee - 2 * j - 1) hx hb hK hP (bw_D hbv) hS (1) 3 (bw_1 G b v c (dP f ee u (2 * j))) rfl rfl (by omega) (by decide) (o_dig8 (show u / 100 ^ j % 10 < 10 by omega)) dJ6_getChars_ba4f3_84 (fun H locs hP hD hS => ?_)
            have hP : va_P G.1 vwCl (bw G b v c (upd (dP f ee u (2 * j)) (ee - 2 * j - 1) (nI (48 + (u / 100 ^ j) % 10)))) H := by rw [← bw_f G b v c (dP f ee u (2 * j)) (upd (dP f ee u (2 * j)) (ee - 2 * j - 1) (nI (48 + (u / 100 ^ j) % 10)))]; exact hP
            clear hD
            refine lv_iload_n hx hb dJ6_getChars_ba4f3_85 rfl (lv_at hl 4 rfl) ?_
            refine lv_bipush (v := (-9)) hx hb dJ6_getChars_ba4f3_86 (by decide) ?_
            refine lv_icmp_ge (tgt := 104) hx hb dJ6_getChars_ba4f3_88 (by decide) (fun c88 => ?_) (fun c88 => ?_)
            · have h9 := h9a ((o_neg9 hx3).mp c88)
              refine lv_iload hx hb dJ6_getChars_ba4f3_104 (lv_at hl 3 rfl) ?_
              refine lv_if_eq (tgt := 118) hx hb dJ6_getChars_ba4f3_106 (by decide) (fun c106 => ?_) (fun c106 => ?_)
              · refine lv_iload hx hb dJ6_getChars_ba4f3_118 (lv_at hl 0 rfl) ?_
                exact o_iretM hx hb hr hlocks hS dJ6_getChars_ba4f3_120 (by have h7 := hP; rw [h9]; first | (rw [dP_1 (m := 2 * j) (by omega) rfl (dgt_2 u j)] at h7; exact h7) | (rw [dP_1 (m := 2 * j) (by omega) rfl (dgt_2 u j), dP_1 (m := 2 * j + 1) (by omega) (by omega) (dgt_3 hlt)] at h7; exact h7)) (congrArg nI (by omega))
              · exact absurd rfl c106
            · have h8 : 9 < u / 100 ^ j := Nat.not_le.mp (fun q => c88 ((o_neg9 hx3).mpr q))
              have h9 := h9b h8
              refine lv_aload_n hx hb dJ6_getChars_ba4f3_91 rfl (lv_at hl 2 rfl) ?_
              refine lv_iinc (v := nI (ee - 2 * j - 1 - 1)) (lv' := [(5, .int (nI (ee - 2 * j - 1 - 1))), (1, .int (nI ee)), (2, .ref v), (6, .int 0), (0, .int (-(nI (u / 100 ^ j))))]) hx hb dJ6_getChars_ba4f3_92 hl (k := 0) rfl (o_dec1 (by omega)) (by decide) rfl (fun ls hl => ?_)
              refine lv_iload hx hb dJ6_getChars_ba4f3_95 (lv_at hl 0 rfl) ?_
              refine va_gets hx hb hE.2.1.2.2.1 hS hown (hts (.fieldLink RJ6 87 "java/lang/Integer" "DigitTens" "[B") (List.mem_of_getElem? (i := 2) rfl)) (fun _ h9 => h9) dJ6_getChars_ba4f3_97 ?_
              refine lv_iload_n hx hb dJ6_getChars_ba4f3_100 rfl (lv_at hl 4 rfl) ?_
              refine lv_ineg hx hb dJ6_getChars_ba4f3_101 ?_
              rw [show -(-(nI (u / 100 ^ j))) = nI (u / 100 ^ j) from Int32.neg_neg]
              refine va_tb (v := .int (nI (48 + (u / 100 ^ j) / 10))) hx hb hE.2.1.2.2.2 hS (vp_in_nI (show u / 100 ^ j < 100 by omega) (by decide)) (by rw [nI_clamp (show u / 100 ^ j < 2 ^ 31 by omega)]) dJ6_getChars_ba4f3_102 ?_
              refine o_bast (k := ee - 2 * j - 1 - 1) hx hb hK hP (bw_D hbv) hS (1) 3 (bw_1 G b v c (upd (dP f ee u (2 * j)) (ee - 2 * j - 1) (nI (48 + (u / 100 ^ j) % 10)))) rfl rfl (by omega) (by decide) (o_dig8 (show u / 100 ^ j / 10 < 10 by omega)) dJ6_getChars_ba4f3_103 (fun H locs hP hD hS => ?_)
              have hP : va_P G.1 vwCl (bw G b v c (upd (upd (dP f ee u (2 * j)) (ee - 2 * j - 1) (nI (48 + (u / 100 ^ j) % 10))) (ee - 2 * j - 1 - 1) (nI (48 + (u / 100 ^ j) / 10)))) H := by rw [← bw_f G b v c (upd (dP f ee u (2 * j)) (ee - 2 * j - 1) (nI (48 + (u / 100 ^ j) % 10))) (upd (upd (dP f ee u (2 * j)) (ee - 2 * j - 1) (nI (48 + (u / 100 ^ j) % 10))) (ee - 2 * j - 1 - 1) (nI (48 + (u / 100 ^ j) / 10)))]; exact hP
              clear hD
              refine lv_iload hx hb dJ6_getChars_ba4f3_104 (lv_at hl 3 rfl) ?_
              refine lv_if_eq (tgt := 118) hx hb dJ6_getChars_ba4f3_106 (by decide) (fun c106 => ?_) (fun c106 => ?_)
              · refine lv_iload hx hb dJ6_getChars_ba4f3_118 (lv_at hl 0 rfl) ?_
                exact o_iretM hx hb hr hlocks hS dJ6_getChars_ba4f3_120 (by have h7 := hP; rw [h9]; first | (rw [dP_1 (m := 2 * j) (by omega) rfl (dgt_2 u j)] at h7; exact h7) | (rw [dP_1 (m := 2 * j) (by omega) rfl (dgt_2 u j), dP_1 (m := 2 * j + 1) (by omega) (by omega) (dgt_3 hlt)] at h7; exact h7)) (congrArg nI (by omega))
              · exact absurd rfl c106
          · exact absurd ((o_neg100 hx3).mpr hlt) c25
        | succ d22 ih22 =>
          intro j hk22 x22_0 e22_0 x22_5 e22_5 τ22 eτ22 H locs hP hS ls hl
          subst e22_0
          subst e22_5
          subst eτ22
          have hj22 : j < (sD u - 1) / 2 := by omega
          have hge := o_100ge hu hj22
          have hx3 := o_100b j hu
          refine lv_iload_n hx hb dJ6_getChars_ba4f3_22 rfl (lv_at hl 3 rfl) ?_
          refine lv_bipush (v := (-100)) hx hb dJ6_getChars_ba4f3_23 (by decide) ?_
          refine lv_icmp_gt (tgt := 72) hx hb dJ6_getChars_ba4f3_25 (by decide) (fun c25 => ?_) (fun c25 => ?_)
          · exact absurd ((o_neg100 hx3).mp c25) (by omega)
          · refine lv_iload_n hx hb dJ6_getChars_ba4f3_28 rfl (lv_at hl 3 rfl) ?_
            refine lv_bipush (v := 100) hx hb dJ6_getChars_ba4f3_29 (by decide) ?_
            refine lv_idiv hx hb dJ6_getChars_ba4f3_31 (by decide) ?_
            rw [o_negdiv hx3]
            refine lv_istore_n (lv' := [(3, .int (-(nI (u / 100 ^ j / 100)))), (1, .int (nI ee)), (2, .ref v), (6, .int 0), (0, .int (-(nI (u / 100 ^ j)))), (5, .int (nI (ee - 2 * j)))]) hx hb dJ6_getChars_ba4f3_32 rfl hl (by decide) rfl (fun ls hl => ?_)
            refine lv_iload_n hx hb dJ6_getChars_ba4f3_33 rfl (lv_at hl 0 rfl) ?_
            refine lv_bipush (v := 100) hx hb dJ6_getChars_ba4f3_34 (by decide) ?_
            refine lv_imul hx hb dJ6_getChars_ba4f3_36 ?_
            refine lv_iload_n hx hb dJ6_getChars_ba4f3_37 rfl (lv_at hl 4 rfl) ?_
            refine lv_isub hx hb dJ6_getChars_ba4f3_38 ?_
            rw [o_negrem]
            refine lv_istore (lv' := [(4, .int (nI (u / 100 ^ j % 100))), (3, .int (-(nI (u / 100 ^ j / 100)))), (1, .int (nI ee)), (2, .ref v), (6, .int 0), (0, .int (-(nI (u / 100 ^ j)))), (5, .int (nI (ee - 2 * j)))]) hx hb dJ6_getChars_ba4f3_39 hl (by decide) rfl (fun ls hl => ?_)
            refine lv_iload_n hx hb dJ6_getChars_ba4f3_41 rfl (lv_at hl 1 rfl) ?_
            refine lv_istore_n (lv' := [(0, .int (-(nI (u / 100 ^ j / 100)))), (4, .int (nI (u / 100 ^ j % 100))), (3, .int (-(nI (u / 100 ^ j / 100)))), (1, .int (nI ee)), (2, .ref v), (6, .int 0), (5, .int (nI (ee - 2 * j)))]) hx hb dJ6_getChars_ba4f3_42 rfl hl (by decide) rfl (fun ls hl => ?_)
            refine lv_aload_n hx hb dJ6_getChars_ba4f3_43 rfl (lv_at hl 4 rfl) ?_
            refine lv_iinc (v := nI (ee - 2 * j - 1)) (lv' := [(5, .int (nI (ee - 2 * j - 1))), (0, .int (-(nI (u / 100 ^ j / 100)))), (4, .int (nI (u / 100 ^ j % 100))), (3, .int (-(nI (u / 100 ^ j / 100)))), (1, .int (nI ee)), (2, .ref v), (6, .int 0)]) hx hb dJ6_getChars_ba4f3_44 hl (k := 6) rfl (o_dec1 (by omega)) (by decide) rfl (fun ls hl => ?_)
            refine lv_iload hx hb dJ6_getChars_ba4f3_47 (lv_at hl 0 rfl) ?_
            refine va_gets hx hb hE.2.1.1 hS hown (hts (.fieldLink RJ6 83 "java/lang/Integer" "DigitOnes" "[B") (List.mem_of_getElem? (i := 1) rfl)) (fun _ h9 => h9) dJ6_getChars_ba4f3_49 ?_
            refine lv_iload hx hb dJ6_getChars_ba4f3_52 (lv_at hl 2 rfl) ?_
            refine va_tb (v := .int (nI (48 + (u / 100 ^ j % 100) % 10))) hx hb hE.2.1.2.1 hS (vp_in_nI (show u / 100 ^ j % 100 < 100 by omega) (by decide)) (by rw [nI_clamp (show u / 100 ^ j % 100 < 2 ^ 31 by omega)]) dJ6_getChars_ba4f3_54 ?_
            refine o_bast (k := ee - 2 * j - 1) hx hb hK hP (bw_D hbv) hS (1) 3 (bw_1 G b v c (dP f ee u (2 * j))) rfl rfl (by omega) (by decide) (o_dig8 (show u / 100 ^ j % 100 % 10 < 10 by omega)) dJ6_getChars_ba4f3_55 (fun H locs hP hD hS => ?_)
            have hP : va_P G.1 vwCl (bw G b v c (upd (dP f ee u (2 * j)) (ee - 2 * j - 1) (nI (48 + (u / 100 ^ j % 100) % 10)))) H := by rw [← bw_f G b v c (dP f ee u (2 * j)) (upd (dP f ee u (2 * j)) (ee - 2 * j - 1) (nI (48 + (u / 100 ^ j % 100) % 10)))]; exact hP
            clear hD
            refine lv_aload_n hx hb dJ6_getChars_ba4f3_56 rfl (lv_at hl 5 rfl) ?_
            refine lv_iinc (v := nI (ee - 2 * j - 1 - 1)) (lv' := [(5, .int (nI (ee - 2 * j - 1 - 1))), (0, .int (-(nI (u / 100 ^ j / 100)))), (4, .int (nI (u / 100 ^ j % 100))), (3, .int (-(nI (u / 100 ^ j / 100)))), (1, .int (nI ee)), (2, .ref v), (6, .int 0)]) hx hb dJ6_getChars_ba4f3_57 hl (k := 0) rfl (o_dec1 (by omega)) (by decide) rfl (fun ls hl => ?_)
            refine lv_iload hx hb dJ6_getChars_ba4f3_60 (lv_at hl 0 rfl) ?_
            refine va_gets hx hb hE.2.1.2.2.1 hS hown (hts (.fieldLink RJ6 87 "java/lang/Integer" "DigitTens" "[B") (List.mem_of_getElem? (i := 2) rfl)) (fun _ h9 => h9) dJ6_getChars_ba4f3_62 ?_
            refine lv_iload hx hb dJ6_getChars_ba4f3_65 (lv_at hl 2 rfl) ?_
            refine va_tb (v := .int (nI (48 + (u / 100 ^ j % 100) / 10))) hx hb hE.2.1.2.2.2 hS (vp_in_nI (show u / 100 ^ j % 100 < 100 by omega) (by decide)) (by rw [nI_clamp (show u / 100 ^ j % 100 < 2 ^ 31 by omega)]) dJ6_getChars_ba4f3_67 ?_
            refine o_bast (k := ee - 2 * j - 1 - 1) hx hb hK hP (bw_D hbv) hS (1) 3 (bw_1 G b v c (upd (dP f ee u (2 * j)) (ee - 2 * j - 1) (nI (48 + (u / 100 ^ j % 100) % 10)))) rfl rfl (by omega) (by decide) (o_dig8 (show u / 100 ^ j % 100 / 10 < 10 by omega)) dJ6_getChars_ba4f3_68 (fun H locs hP hD hS => ?_)
            have hP : va_P G.1 vwCl (bw G b v c (upd (upd (dP f ee u (2 * j)) (ee - 2 * j - 1) (nI (48 + (u / 100 ^ j % 100) % 10))) (ee - 2 * j - 1 - 1) (nI (48 + (u / 100 ^ j % 100) / 10)))) H := by rw [← bw_f G b v c (upd (dP f ee u (2 * j)) (ee - 2 * j - 1) (nI (48 + (u / 100 ^ j % 100) % 10))) (upd (upd (dP f ee u (2 * j)) (ee - 2 * j - 1) (nI (48 + (u / 100 ^ j % 100) % 10))) (ee - 2 * j - 1 - 1) (nI (48 + (u / 100 ^ j % 100) / 10)))]; exact hP
            clear hD
            refine lv_goto (tgt := 22) hx hb dJ6_getChars_ba4f3_69 (by decide) ?_
            exact ih22 (j + 1) (by omega) _ (by rw [o_100s]) _ (rfl) _ (by rw [dP_1 (m := 2 * j) (by omega) rfl (dgt_0 u j), dP_1 (m := 2 * j + 1) (by omega) (by omega) (dgt_1 u j)]; rfl) _ _ hP hS ls (lv_sub hl [4, 5, 6, 1, 0] rfl)
      exact lp22 ((sD u - 1) / 2) 0 (by omega) _ (by rw [Nat.pow_zero, Nat.div_one]) _ (rfl) _ ((dP_0 f ee u).symm) _ _ hP hS ls (lv_sub hl [3, 4, 1, 0, 2] rfl)
  · exact absurd (nI_pos' hu) c4
