set_option maxHeartbeats 4000000 in
set_option maxRecDepth 100000 in
theorem m_J5_append_c97b9 (l : Launch) (G : oG) (b v : Nat) (hbv : b ≠ v) (c : Int32) (f : Nat → Int32) (sz a w k : Nat) (t : Nat → Int32) (t1 t2 : Nat) (n : Nat) (u : Nat) (hu : u < 2 ^ 31) (hn : n + sD u ≤ 16) : Met l yJ5_append_c97b9 wsJ5_append_c97b9 ({ frames := 1, cells := 0, slots := 0, locals := 26 } : Room) (va_Pc [.ref b, .int (nI u)] (PB G (bw G b v (nI n) f) sz a w k t t1 t2 (bA b v))) (oQ (some (.ref b)) (fun H9 => va_P G.1 vwCl (bw G b v (nI (n + sD u)) (dA f n u)) H9) (bA b v)) 0 0 (bA b v) := by
  refine oB_body (cc := cJ5_append_c97b9) (by decide +kernel) rfl (Nat.le_of_ble_eq_true rfl) ?_
  intro p e s m below meth c9 ls hx hb hml hr hlocks hown hts hP hK hN hE hz hl
  have hown : s.vm.findClass RJ5 = some m.cls := hown
  have hl : lv_has ls 4 [(0, .ref b), (1, .int (nI u))] := hl
  have hS : va_S (bA b v) s.heap s.heap [] := va_S.rf
  have hd1 := sD_pos u
  refine lv_aload_n hx hb dJ5_append_c97b9_0 rfl (lv_at hl 0 rfl) ?_
  refine va_get (D := G.1) (ci := 1) (v := .int (nI n)) (C := RJ4) (T := TJ4) (N := 4) hx hb hts (fun w9 h9 => List.mem_cons_of_mem _ (List.mem_append_right _ (h9))) hown hK hP (0) (bw_0 G b v (nI n) f) rfl 3 (by decide) (hts (.fieldLink RJ5 79 "java/lang/AbstractStringBuilder" "count" "I") (List.mem_of_getElem? (i := 1) rfl)) (fun _ h9 => h9) rfl dJ5_append_c97b9_1 ?_
  refine lv_istore_n (lv' := [(2, .int (nI n)), (0, .ref b), (1, .int (nI u))]) hx hb dJ5_append_c97b9_4 rfl hl (by decide) rfl (fun ls hl => ?_)
  refine lv_iload_n hx hb dJ5_append_c97b9_5 rfl (lv_at hl 0 rfl) ?_
  refine lv_iload_n hx hb dJ5_append_c97b9_6 rfl (lv_at hl 2 rfl) ?_
  refine oB_cS [.int (nI u)] [.int (nI n)] ⟨hx, hb, hml, hown, hts⟩ (m_J6_stringSize_0f7a4 l G b v hbv (nI n) f sz a w k t t1 t2 u (by omega)) (va_cwS 1 hts gJ5_append_c97b9_J6_stringSize_0f7a4 rfl rfl rfl (by decide +kernel) ⟨Nat.le_of_ble_eq_true rfl, Nat.le_of_ble_eq_true rfl⟩) hK hN hP hE hS (fun _ h => h.elim) (Nat.le_trans hz hS.1) rfl hl.1 rfl (Nat.le_of_ble_eq_true rfl) dJ5_append_c97b9_7 ⟨(show 0 + 0 ≤ 0 by omega), (show 0 + 0 ≤ 0 by omega)⟩ (fun H locs hP _ _ hS => ?_)
  change W _ _ _ _ _ _ _ _ _ _ _ _ _ _ _ (F0 m 10 ls [.int (nI (sD u)), .int (nI n)])
  have hP : va_P G.1 vwCl (bw G b v (nI n) f) H := hP
  refine lv_iadd hx hb dJ5_append_c97b9_10 ?_
  rw [nI_add]
  refine lv_istore_n (lv' := [(3, .int (nI (n + sD u))), (2, .int (nI n)), (0, .ref b), (1, .int (nI u))]) hx hb dJ5_append_c97b9_11 rfl hl (by decide) rfl (fun ls hl => ?_)
  refine lv_aload_n hx hb dJ5_append_c97b9_12 rfl (lv_at hl 2 rfl) ?_
  refine lv_iload_n hx hb dJ5_append_c97b9_13 rfl (lv_at hl 0 rfl) ?_
  refine oB_cU (q0 := 0) (ci := 1) [.int (nI (n + sD u))] [] ⟨hx, hb, hml, hown, hts⟩ (m_J5_ensureCapacityInternal_d00df l G b v hbv (nI n) f sz a w k t t1 t2 (n + sD u) (by omega)) (va_cwU 1 hts gJ5_append_c97b9_J5_ensureCapacityInternal_d00df_u100J4 rfl rfl rfl rfl (by decide +kernel) ⟨Nat.le_of_ble_eq_true rfl, Nat.le_of_ble_eq_true rfl⟩) hK hN hP hE hS (fun _ h => h.elim) (Nat.le_trans hz hS.1) rfl rfl (bw_0 G b v (nI n) f) rfl hl.1 rfl (Nat.le_of_ble_eq_true rfl) dJ5_append_c97b9_14 ⟨(show 0 + 0 ≤ 0 by omega), (show 0 + 0 ≤ 0 by omega)⟩ (fun H locs hP _ _ hS => ?_)
  change W _ _ _ _ _ _ _ _ _ _ _ _ _ _ _ (F0 m 17 ls [])
  have hP : va_P G.1 vwCl (bw G b v (nI n) f) H := hP
  refine lv_aload_n hx hb dJ5_append_c97b9_17 rfl (lv_at hl 2 rfl) ?_
  refine oB_cU (q0 := 0) (ci := 1) [] [] ⟨hx, hb, hml, hown, hts⟩ (m_J5_isLatin1_aae02 l G b v hbv (nI n) f sz a w k t t1 t2) (va_cwU 0 hts gJ5_append_c97b9_J5_isLatin1_aae02_u83J4 rfl rfl rfl rfl (by decide +kernel) ⟨Nat.le_of_ble_eq_true rfl, Nat.le_of_ble_eq_true rfl⟩) hK hN hP hE hS (fun _ h => h.elim) (Nat.le_trans hz hS.1) rfl rfl (bw_0 G b v (nI n) f) rfl hl.1 rfl (Nat.le_of_ble_eq_true rfl) dJ5_append_c97b9_18 ⟨(show 0 + 0 ≤ 0 by omega), (show 0 + 0 ≤ 0 by omega)⟩ (fun H locs hP _ _ hS => ?_)
  change W _ _ _ _ _ _ _ _ _ _ _ _ _ _ _ (F0 m 21 ls [.int 1])
  have hP : va_P G.1 vwCl (bw G b v (nI n) f) H := hP
  refine lv_if_eq (tgt := 37) hx hb dJ5_append_c97b9_21 (by decide) (fun c21 => ?_) (fun c21 => ?_)
  · exact absurd c21 (by decide)
  · refine lv_iload_n hx hb dJ5_append_c97b9_24 rfl (lv_at hl 3 rfl) ?_
    refine lv_iload_n hx hb dJ5_append_c97b9_25 rfl (lv_at hl 0 rfl) ?_
    refine lv_aload_n hx hb dJ5_append_c97b9_26 rfl (lv_at hl 2 rfl) ?_
    refine va_get (D := G.1) (ci := 1) (v := .ref v) (C := RJ4) (T := TJ4) (N := 4) hx hb hts (fun w9 h9 => List.mem_cons_of_mem _ (List.mem_append_right _ (h9))) hown hK hP (0) (bw_0 G b v (nI n) f) rfl 0 (by decide) (hts (.fieldLink RJ5 15 "java/lang/AbstractStringBuilder" "value" "[B") (List.mem_of_getElem? (i := 2) rfl)) (fun _ h9 => h9) rfl dJ5_append_c97b9_27 ?_
    refine oB_cS [.int (nI u), .int (nI (n + sD u)), .ref v] [] ⟨hx, hb, hml, hown, hts⟩ (m_J6_getChars_ba4f3 l G b v hbv (nI n) f sz a w k t t1 t2 u (n + sD u) (by omega) (by omega)) (va_cwS 3 hts gJ5_append_c97b9_J6_getChars_ba4f3 rfl rfl rfl (by decide +kernel) ⟨Nat.le_of_ble_eq_true rfl, Nat.le_of_ble_eq_true rfl⟩) hK hN hP hE hS (fun _ h => h) (Nat.le_trans hz hS.1) rfl hl.1 rfl (Nat.le_of_ble_eq_true rfl) dJ5_append_c97b9_30 ⟨(show 0 + 0 ≤ 0 by omega), (show 0 + 0 ≤ 0 by omega)⟩ (fun H locs hP _ _ hS => ?_)
    change W _ _ _ _ _ _ _ _ _ _ _ _ _ _ _ (F0 m 33 ls [.int (nI ((n + sD u) - sD u))])
    have hP : va_P G.1 vwCl (bw G b v (nI n) (dP f (n + sD u) u (sD u))) H := hP
    refine lv_pop hx hb dJ5_append_c97b9_33 rfl ?_
    refine lv_goto (tgt := 48) hx hb dJ5_append_c97b9_34 (by decide) ?_
    refine lv_aload_n hx hb dJ5_append_c97b9_48 rfl (lv_at hl 2 rfl) ?_
    refine lv_iload_n hx hb dJ5_append_c97b9_49 rfl (lv_at hl 0 rfl) ?_
    refine va_put (D := G.1) (ci := 1) (v := .int (nI (n + sD u))) (ty := .int) (C := RJ4) (T := TJ4) (N := 4) hx hb hts (fun w9 h9 => List.mem_cons_of_mem _ (List.mem_append_right _ (h9))) tyJ4 tyJ4_ok nmJ4 hown hK hP (bw_D hbv) hS (0) (bw_0 G b v (nI n) (dP f (n + sD u) u (sD u))) rfl 3 (by decide) (hts (.fieldLink RJ5 79 "java/lang/AbstractStringBuilder" "count" "I") (List.mem_of_getElem? (i := 1) rfl)) (fun _ h9 => h9) rfl (by decide +kernel) rfl rfl (Nat.le_of_ble_eq_true rfl) dJ5_append_c97b9_50 (fun H locs hP hD hS => ?_)
    have hP : va_P G.1 vwCl (bw G b v (nI (n + sD u)) (dP f (n + sD u) u (sD u))) H := by rw [← bw_c G b v (nI n) (nI (n + sD u)) (dP f (n + sD u) u (sD u))]; exact hP
    clear hD
    refine lv_aload_n hx hb dJ5_append_c97b9_53 rfl (lv_at hl 2 rfl) ?_
    exact o_aretM hx hb hr (by first | exact Or.inl ⟨_, rfl⟩ | exact Or.inr ⟨_, rfl⟩) hlocks hS dJ5_append_c97b9_54 (hP)
set_option maxHeartbeats 4000000 in
set_option maxRecDepth 100000 in
theorem m_J4_append_bf812 (l : Launch) (G : oG) (b v : Nat) (hbv : b ≠ v) (c : Int32) (f : Nat → Int32) (sz a w k : Nat) (t : Nat → Int32) (t1 t2 : Nat) (n : Nat) (u : Nat) (hu : u < 2 ^ 31) (hn : n + sD u ≤ 16) : Met l yJ4_append_bf812 wsJ4_append_bf812 ({ frames := 2, cells := 0, slots := 0, locals := 49 } : Room) (va_Pc [.ref b, .int (nI u)] (PB G (bw G b v (nI n) f) sz a w k t t1 t2 (bA b v))) (oQ (some (.ref b)) (fun H9 => va_P G.1 vwCl (bw G b v (nI (n + sD u)) (dA f n u)) H9) (bA b v)) 0 0 (bA b v) := by
  refine oB_body (cc := cJ4_append_bf812) (by decide +kernel) rfl (Nat.le_of_ble_eq_true rfl) ?_
  intro p e s m below meth c9 ls hx hb hml hr hlocks hown hts hP hK hN hE hz hl
  have hown : s.vm.findClass RJ4 = some m.cls := hown
  have hl : lv_has ls 2 [(0, .ref b), (1, .int (nI u))] := hl
  have hS : va_S (bA b v) s.heap s.heap [] := va_S.rf
  refine lv_aload_n hx hb dJ4_append_bf812_0 rfl (lv_at hl 0 rfl) ?_
  refine lv_iload_n hx hb dJ4_append_bf812_1 rfl (lv_at hl 1 rfl) ?_
  refine oB_cSU (q0 := 0) (ci := 1) [.int (nI u)] [] (hK.1 1 _ rfl).2 ⟨hx, hb, hml, hown, hts⟩ (m_J5_append_c97b9 l G b v hbv (nI n) f sz a w k t t1 t2 n u (hu) (hn)) (va_cwSU 1 hts gJ4_append_bf812_J5_append_c97b9_s53 rfl rfl rfl (by decide +kernel) ⟨Nat.le_of_ble_eq_true rfl, Nat.le_of_ble_eq_true rfl⟩) hK hN hP hE hS (fun _ h => h) (Nat.le_trans hz hS.1) rfl rfl (bw_0 G b v (nI n) f) rfl hl.1 rfl (Nat.le_of_ble_eq_true rfl) dJ4_append_bf812_2 ⟨(show 0 + 0 ≤ 0 by omega), (show 0 + 0 ≤ 0 by omega)⟩ (fun H locs hP _ _ hS => ?_)
  change W _ _ _ _ _ _ _ _ _ _ _ _ _ _ _ (F0 m 5 ls [.ref b])
  have hP : va_P G.1 vwCl (bw G b v (nI (n + sD u)) (dA f n u)) H := hP
  refine lv_pop hx hb dJ4_append_bf812_5 rfl ?_
  refine lv_aload_n hx hb dJ4_append_bf812_6 rfl (lv_at hl 0 rfl) ?_
  exact o_aretM hx hb hr (by first | exact Or.inl ⟨_, rfl⟩ | exact Or.inr ⟨_, rfl⟩) hlocks hS dJ4_append_bf812_7 (hP)
set_option maxHeartbeats 4000000 in
set_option maxRecDepth 100000 in
theorem m_J5_inflateIfNeededFor_a7421 (l : Launch) (G : oG) (b v : Nat) (hbv : b ≠ v) (c : Int32) (f : Nat → Int32) (sz a w k : Nat) (t : Nat → Int32) (t1 t2 : Nat) : Met l yJ5_inflateIfNeededFor_a7421 wsJ5_inflateIfNeededFor_a7421 ({ frames := 1, cells := 0, slots := 0, locals := 20 } : Room) (va_Pc [.ref b, .ref a] (PB G (bw G b v c f) sz a w k t t1 t2 bF)) (oQ none (fun H9 => va_P G.1 vwCl (bw G b v c f) H9) bF) 0 0 bF := by
  refine oB_body (cc := cJ5_inflateIfNeededFor_a7421) (by decide +kernel) rfl (Nat.le_of_ble_eq_true rfl) ?_
  intro p e s m below meth c9 ls hx hb hml hr hlocks hown hts hP hK hN hE hz hl
  have hown : s.vm.findClass RJ5 = some m.cls := hown
  have hl : lv_has ls 2 [(0, .ref b), (1, .ref a)] := hl
  have hS : va_S bF s.heap s.heap [] := va_S.rf
  refine va_gets hx hb hE.1.1 hS hown (hts (.fieldLink RJ5 18 "java/lang/String" "COMPACT_STRINGS" "Z") (List.mem_of_getElem? (i := 1) rfl)) (fun _ h9 => h9) dJ5_inflateIfNeededFor_a7421_0 ?_
  refine lv_if_eq (tgt := 21) hx hb dJ5_inflateIfNeededFor_a7421_3 (by decide) (fun c3 => ?_) (fun c3 => ?_)
  · exact absurd c3 (by decide)
  · refine lv_aload_n hx hb dJ5_inflateIfNeededFor_a7421_6 rfl (lv_at hl 0 rfl) ?_
    refine va_get (D := G.1) (ci := 1) (v := .int 0) (C := RJ4) (T := TJ4) (N := 4) hx hb hts (fun w9 h9 => List.mem_cons_of_mem _ (List.mem_append_left _ (List.mem_append_right _ (h9)))) hown hK hP (0) (bw_0 G b v c f) rfl 1 (by decide) (hts (.fieldLink RJ5 22 "java/lang/AbstractStringBuilder" "coder" "B") (List.mem_of_getElem? (i := 2) rfl)) (fun _ h9 => h9) rfl dJ5_inflateIfNeededFor_a7421_7 ?_
    refine lv_aload_n hx hb dJ5_inflateIfNeededFor_a7421_10 rfl (lv_at hl 1 rfl) ?_
    refine oS_cV [] [.int 0] ⟨hx, hb, hml, hown, hts⟩ (m_J0_coder l a w k t) (cwV 0 hts gJ5_inflateIfNeededFor_a7421_J0_coder_7d493 rfl rfl rfl (by decide +kernel) ⟨Nat.le_of_ble_eq_true rfl, Nat.le_of_ble_eq_true rfl⟩) hE.2.2 hE.1 hS rfl hl.1 rfl (Nat.le_of_ble_eq_true rfl) dJ5_inflateIfNeededFor_a7421_11 ⟨Nat.zero_le _, Nat.zero_le _⟩ ?_
    refine lv_icmp_eq (tgt := 21) hx hb dJ5_inflateIfNeededFor_a7421_14 (by decide) (fun c14 => ?_) (fun c14 => ?_)
    · have n14 := (o_neq (a := 0) (b := 0) (by decide) (by decide) (by omega) (by omega)).mp c14
      exact o_vretM hx hb hr hlocks hS dJ5_inflateIfNeededFor_a7421_21 (hP)
    · have n14 := (mt (o_neq (a := 0) (b := 0) (by decide) (by decide) (by omega) (by omega)).mpr) c14; exact absurd rfl c14
set_option maxHeartbeats 4000000 in
set_option maxRecDepth 100000 in
theorem m_J0_getBytes_840e7 (l : Launch) (G : oG) (b v : Nat) (hbv : b ≠ v) (c : Int32) (f : Nat → Int32) (sz a w k : Nat) (t : Nat → Int32) (t1 t2 : Nat) (n : Nat) (hfit : bfit t k) (hn : n + k ≤ 16) : Met l yJ0_getBytes_840e7 wsJ0_getBytes_840e7 ({ frames := 1, cells := 0, slots := 0, locals := 60 } : Room) (va_Pc [.ref a, .ref v, .int (nI n), .int 0] (PB G (bw G b v c f) sz a w k t t1 t2 (bA b v))) (oQ none (fun H9 => va_P G.1 vwCl (bw G b v c (va_cpy t f 0 n k)) H9) (bA b v)) 0 0 (bA b v) := by
  refine oB_body (cc := cJ0_getBytes_840e7) (by decide +kernel) rfl (Nat.le_of_ble_eq_true rfl) ?_
  intro p e s m below meth c9 ls hx hb hml hr hlocks hown hts hP hK hN hE hz hl
  have hown : s.vm.findClass RJ0 = some m.cls := hown
  have hl : lv_has ls 4 [(0, .ref a), (1, .ref v), (2, .int (nI n)), (3, .int 0)] := hl
  have hS : va_S (bA b v) s.heap s.heap [] := va_S.rf
  refine lv_aload_n hx hb dJ0_getBytes_840e7_0 rfl (lv_at hl 0 rfl) ?_
  refine oS_cV [] [] ⟨hx, hb, hml, hown, hts⟩ (m_J0_coder l a w k t) (cwV 0 hts gJ0_getBytes_840e7_J0_coder_7d493 rfl rfl rfl (by decide +kernel) ⟨Nat.le_of_ble_eq_true rfl, Nat.le_of_ble_eq_true rfl⟩) hE.2.2 hE.1 hS rfl hl.1 rfl (Nat.le_of_ble_eq_true rfl) dJ0_getBytes_840e7_1 ⟨Nat.zero_le _, Nat.zero_le _⟩ ?_
  refine lv_iload_n hx hb dJ0_getBytes_840e7_4 rfl (lv_at hl 3 rfl) ?_
  refine lv_icmp_ne (tgt := 28) hx hb dJ0_getBytes_840e7_5 (by decide) (fun c5 => ?_) (fun c5 => ?_)
  · have n5 := (mt (o_neq (a := 0) (b := 0) (by decide) (by decide) (by omega) (by omega)).mpr) c5; exact absurd rfl c5
  · have n5 := (o_neq (a := 0) (b := 0) (by decide) (by decide) (by omega) (by omega)).mp c5
    refine lv_aload_n hx hb dJ0_getBytes_840e7_8 rfl (lv_at hl 0 rfl) ?_
    refine vk_getf hx hb hE.2.2.2.2.1 hS hown (hts (.fieldLink RJ0 9 "java/lang/String" "value" "[B") (List.mem_of_getElem? (i := 1) rfl)) (fun _ h9 => h9) dJ0_getBytes_840e7_9 ?_
    refine lv_iconst (v := 0) hx hb dJ0_getBytes_840e7_12 (by decide) ?_
    refine lv_aload_n hx hb dJ0_getBytes_840e7_13 rfl (lv_at hl 1 rfl) ?_
    refine lv_iload_n hx hb dJ0_getBytes_840e7_14 rfl (lv_at hl 2 rfl) ?_
    refine lv_iload_n hx hb dJ0_getBytes_840e7_15 rfl (lv_at hl 3 rfl) ?_
    refine lv_ishl hx hb dJ0_getBytes_840e7_16 ?_
    rw [sb_shl0]
    refine lv_aload_n hx hb dJ0_getBytes_840e7_17 rfl (lv_at hl 0 rfl) ?_
    refine vk_getf hx hb hE.2.2.2.2.1 hS hown (hts (.fieldLink RJ0 9 "java/lang/String" "value" "[B") (List.mem_of_getElem? (i := 1) rfl)) (fun _ h9 => h9) dJ0_getBytes_840e7_18 ?_
    refine va_tlen (v := nI k) hx hb hE.2.2.2.2.2 hS rfl dJ0_getBytes_840e7_21 ?_
    refine o_copyT (rest := []) hx hb (hml.trans hl.1.symm) hown (hts (.methodLink RJ0 212 arraycopyName) (List.mem_of_getElem? (i := 2) rfl)) (hts (.native arraycopyName) (List.mem_of_getElem? (i := 3) rfl)) (hts (.static arraycopyName) (List.mem_of_getElem? (i := 4) rfl)) (hts (.initialized "java/lang/System") (List.mem_of_getElem? (i := 5) rfl)) hK hP (bw_D hbv) hS hE.2.2.2.2.2 1 3 (bw_1 G b v c f) rfl (by omega) (by omega) (Nat.le_refl _) (by omega) hfit (Nat.le_of_ble_eq_true rfl) (Nat.le_of_ble_eq_true rfl) dJ0_getBytes_840e7_22 (fun H locs hP hD hS => ?_)
    have hP : va_P G.1 vwCl (bw G b v c (va_cpy t f 0 n k)) H := by rw [← bw_f G b v c f (va_cpy t f 0 n k)]; exact hP
    clear hD
    refine lv_goto (tgt := 43) hx hb dJ0_getBytes_840e7_25 (by decide) ?_
    exact o_vretM hx hb hr hlocks hS dJ0_getBytes_840e7_43 (hP)
set_option maxHeartbeats 4000000 in
set_option maxRecDepth 100000 in
theorem m_J5_putStringAt_47b60 (l : Launch) (G : oG) (b v : Nat) (hbv : b ≠ v) (c : Int32) (f : Nat → Int32) (sz a w k : Nat) (t : Nat → Int32) (t1 t2 : Nat) (n : Nat) (hfit : bfit t k) (hn : n + k ≤ 16) : Met l yJ5_putStringAt_47b60 wsJ5_putStringAt_47b60 ({ frames := 2, cells := 0, slots := 0, locals := 83 } : Room) (va_Pc [.ref b, .int (nI n), .ref a] (PB G (bw G b v c f) sz a w k t t1 t2 (bA b v))) (oQ none (fun H9 => va_P G.1 vwCl (bw G b v c (va_cpy t f 0 n k)) H9) (bA b v)) 0 0 (bA b v) := by
  refine oB_body (cc := cJ5_putStringAt_47b60) (by decide +kernel) rfl (Nat.le_of_ble_eq_true rfl) ?_
  intro p e s m below meth c9 ls hx hb hml hr hlocks hown hts hP hK hN hE hz hl
  have hown : s.vm.findClass RJ5 = some m.cls := hown
  have hl : lv_has ls 3 [(0, .ref b), (1, .int (nI n)), (2, .ref a)] := hl
  have hS : va_S (bA b v) s.heap s.heap [] := va_S.rf
  refine lv_aload_n hx hb dJ5_putStringAt_47b60_0 rfl (lv_at hl 0 rfl) ?_
  refine lv_aload_n hx hb dJ5_putStringAt_47b60_1 rfl (lv_at hl 2 rfl) ?_
  refine oB_cU (q0 := 0) (ci := 1) [.ref a] [] ⟨hx, hb, hml, hown, hts⟩ (m_J5_inflateIfNeededFor_a7421 l G b v hbv c f sz a w k t t1 t2) (va_cwU 1 hts gJ5_putStringAt_47b60_J5_inflateIfNeededFor_a7421_u397J4 rfl rfl rfl rfl (by decide +kernel) ⟨Nat.le_of_ble_eq_true rfl, Nat.le_of_ble_eq_true rfl⟩) hK hN hP hE hS (fun _ h => h.elim) (Nat.le_trans hz hS.1) rfl rfl (bw_0 G b v c f) rfl hl.1 rfl (Nat.le_of_ble_eq_true rfl) dJ5_putStringAt_47b60_2 ⟨(show 0 + 0 ≤ 0 by omega), (show 0 + 0 ≤ 0 by omega)⟩ (fun H locs hP _ _ hS => ?_)
  change W _ _ _ _ _ _ _ _ _ _ _ _ _ _ _ (F0 m 5 ls [])
  have hP : va_P G.1 vwCl (bw G b v c f) H := hP
  refine lv_aload_n hx hb dJ5_putStringAt_47b60_5 rfl (lv_at hl 2 rfl) ?_
  refine lv_aload_n hx hb dJ5_putStringAt_47b60_6 rfl (lv_at hl 0 rfl) ?_
  refine va_get (D := G.1) (ci := 1) (v := .ref v) (C := RJ4) (T := TJ4) (N := 4) hx hb hts (fun w9 h9 => List.mem_cons_of_mem _ (List.mem_append_left _ (List.mem_append_right _ (h9)))) hown hK hP (0) (bw_0 G b v c f) rfl 0 (by decide) (hts (.fieldLink RJ5 15 "java/lang/AbstractStringBuilder" "value" "[B") (List.mem_of_getElem? (i := 1) rfl)) (fun _ h9 => h9) rfl dJ5_putStringAt_47b60_7 ?_
  refine lv_iload_n hx hb dJ5_putStringAt_47b60_10 rfl (lv_at hl 1 rfl) ?_
  refine lv_aload_n hx hb dJ5_putStringAt_47b60_11 rfl (lv_at hl 0 rfl) ?_
  refine va_get (D := G.1) (ci := 1) (v := .int 0) (C := RJ4) (T := TJ4) (N := 4) hx hb hts (fun w9 h9 => List.mem_cons_of_mem _ (List.mem_append_left _ (List.mem_append_right _ (h9)))) hown hK hP (0) (bw_0 G b v c f) rfl 1 (by decide) (hts (.fieldLink RJ5 22 "java/lang/AbstractStringBuilder" "coder" "B") (List.mem_of_getElem? (i := 2) rfl)) (fun _ h9 => h9) rfl dJ5_putStringAt_47b60_12 ?_
  refine oB_cVs [.ref v, .int (nI n), .int 0] [] ⟨hx, hb, hml, hown, hts⟩ (m_J0_getBytes_840e7 l G b v hbv c f sz a w k t t1 t2 n hfit (hn)) (cwV 3 hts gJ5_putStringAt_47b60_J0_getBytes_840e7 rfl rfl rfl (by decide +kernel) ⟨Nat.le_of_ble_eq_true rfl, Nat.le_of_ble_eq_true rfl⟩) hK hN hP hE hS (fun _ h => h) (Nat.le_trans hz hS.1) rfl hl.1 rfl (Nat.le_of_ble_eq_true rfl) dJ5_putStringAt_47b60_15 ⟨(show 0 + 0 ≤ 0 by omega), (show 0 + 0 ≤ 0 by omega)⟩ (fun H locs hP _ _ hS => ?_)
  change W _ _ _ _ _ _ _ _ _ _ _ _ _ _ _ (F0 m 18 ls [])
  have hP : va_P G.1 vwCl (bw G b v c (va_cpy t f 0 n k)) H := hP
  exact o_vretM hx hb hr hlocks hS dJ5_putStringAt_47b60_18 (hP)
set_option maxHeartbeats 4000000 in
set_option maxRecDepth 100000 in
theorem m_J5_append_cf1ce (l : Launch) (G : oG) (b v : Nat) (hbv : b ≠ v) (c : Int32) (f : Nat → Int32) (sz a w k : Nat) (t : Nat → Int32) (t1 t2 : Nat) (n : Nat) (hfit : bfit t k) (hn : n + k ≤ 16) : Met l yJ5_append_cf1ce wsJ5_append_cf1ce ({ frames := 3, cells := 0, slots := 0, locals := 105 } : Room) (va_Pc [.ref b, .ref a] (PB G (bw G b v (nI n) f) sz a w k t t1 t2 (bA b v))) (oQ (some (.ref b)) (fun H9 => va_P G.1 vwCl (bw G b v (nI (n + k)) (va_cpy t f 0 n k)) H9) (bA b v)) 0 0 (bA b v) := by
  refine oB_body (cc := cJ5_append_cf1ce) (by decide +kernel) rfl (Nat.le_of_ble_eq_true rfl) ?_
  intro p e s m below meth c9 ls hx hb hml hr hlocks hown hts hP hK hN hE hz hl
  have hown : s.vm.findClass RJ5 = some m.cls := hown
  have hl : lv_has ls 3 [(0, .ref b), (1, .ref a)] := hl
  have hS : va_S (bA b v) s.heap s.heap [] := va_S.rf
  refine lv_aload_n hx hb dJ5_append_cf1ce_0 rfl (lv_at hl 1 rfl) ?_
  refine lv_ifnonnull (tgt := 9) hx hb dJ5_append_cf1ce_1 (by decide) ?_
  refine lv_aload_n hx hb dJ5_append_cf1ce_9 rfl (lv_at hl 1 rfl) ?_
  refine oS_cV [] [] ⟨hx, hb, hml, hown, hts⟩ (m_J0_length l a w k t) (cwV 0 hts gJ5_append_cf1ce_J0_length_8abf5 rfl rfl rfl (by decide +kernel) ⟨Nat.le_of_ble_eq_true rfl, Nat.le_of_ble_eq_true rfl⟩) hE.2.2 hE.1 hS rfl hl.1 rfl (Nat.le_of_ble_eq_true rfl) dJ5_append_cf1ce_10 ⟨Nat.zero_le _, Nat.zero_le _⟩ ?_
  refine lv_istore_n (lv' := [(2, .int (nI k)), (0, .ref b), (1, .ref a)]) hx hb dJ5_append_cf1ce_13 rfl hl (by decide) rfl (fun ls hl => ?_)
  refine lv_aload_n hx hb dJ5_append_cf1ce_14 rfl (lv_at hl 1 rfl) ?_
  refine lv_aload_n hx hb dJ5_append_cf1ce_15 rfl (lv_at hl 1 rfl) ?_
  refine va_get (D := G.1) (ci := 1) (v := .int (nI n)) (C := RJ4) (T := TJ4) (N := 4) hx hb hts (fun w9 h9 => List.mem_cons_of_mem _ (List.mem_append_left _ (List.mem_append_right _ (h9)))) hown hK hP (0) (bw_0 G b v (nI n) f) rfl 3 (by decide) (hts (.fieldLink RJ5 79 "java/lang/AbstractStringBuilder" "count" "I") (List.mem_of_getElem? (i := 1) rfl)) (fun _ h9 => h9) rfl dJ5_append_cf1ce_16 ?_
  refine lv_iload_n hx hb dJ5_append_cf1ce_19 rfl (lv_at hl 0 rfl) ?_
  refine lv_iadd hx hb dJ5_append_cf1ce_20 ?_
  rw [nI_add]
  refine oB_cU (q0 := 0) (ci := 1) [.int (nI (n + k))] [] ⟨hx, hb, hml, hown, hts⟩ (m_J5_ensureCapacityInternal_d00df l G b v hbv (nI n) f sz a w k t t1 t2 (n + k) (by omega)) (va_cwU 1 hts gJ5_append_cf1ce_J5_ensureCapacityInternal_d00df_u100J4 rfl rfl rfl rfl (by decide +kernel) ⟨Nat.le_of_ble_eq_true rfl, Nat.le_of_ble_eq_true rfl⟩) hK hN hP hE hS (fun _ h => h.elim) (Nat.le_trans hz hS.1) rfl rfl (bw_0 G b v (nI n) f) rfl hl.1 rfl (Nat.le_of_ble_eq_true rfl) dJ5_append_cf1ce_21 ⟨(show 0 + 0 ≤ 0 by omega), (show 0 + 0 ≤ 0 by omega)⟩ (fun H locs hP _ _ hS => ?_)
  change W _ _ _ _ _ _ _ _ _ _ _ _ _ _ _ (F0 m 24 ls [])
  have hP : va_P G.1 vwCl (bw G b v (nI n) f) H := hP
  refine lv_aload_n hx hb dJ5_append_cf1ce_24 rfl (lv_at hl 1 rfl) ?_
  refine lv_aload_n hx hb dJ5_append_cf1ce_25 rfl (lv_at hl 1 rfl) ?_
  refine va_get (D := G.1) (ci := 1) (v := .int (nI n)) (C := RJ4) (T := TJ4) (N := 4) hx hb hts (fun w9 h9 => List.mem_cons_of_mem _ (List.mem_append_left _ (List.mem_append_right _ (h9)))) hown hK hP (0) (bw_0 G b v (nI n) f) rfl 3 (by decide) (hts (.fieldLink RJ5 79 "java/lang/AbstractStringBuilder" "count" "I") (List.mem_of_getElem? (i := 1) rfl)) (fun _ h9 => h9) rfl dJ5_append_cf1ce_26 ?_
  refine lv_aload_n hx hb dJ5_append_cf1ce_29 rfl (lv_at hl 2 rfl) ?_
  refine oB_cU (q0 := 0) (ci := 1) [.int (nI n), .ref a] [] ⟨hx, hb, hml, hown, hts⟩ (m_J5_putStringAt_47b60 l G b v hbv (nI n) f sz a w k t t1 t2 n hfit (hn)) (va_cwU 2 hts gJ5_append_cf1ce_J5_putStringAt_47b60_u208J4 rfl rfl rfl rfl (by decide +kernel) ⟨Nat.le_of_ble_eq_true rfl, Nat.le_of_ble_eq_true rfl⟩) hK hN hP hE hS (fun _ h => h) (Nat.le_trans hz hS.1) rfl rfl (bw_0 G b v (nI n) f) rfl hl.1 rfl (Nat.le_of_ble_eq_true rfl) dJ5_append_cf1ce_30 ⟨(show 0 + 0 ≤ 0 by omega), (show 0 + 0 ≤ 0 by omega)⟩ (fun H locs hP _ _ hS => ?_)
  change W _ _ _ _ _ _ _ _ _ _ _ _ _ _ _ (F0 m 33 ls [])
  have hP : va_P G.1 vwCl (bw G b v (nI n) (va_cpy t f 0 n k)) H := hP
  refine lv_aload_n hx hb dJ5_append_cf1ce_33 rfl (lv_at hl 1 rfl) ?_
  refine lv_dup hx hb dJ5_append_cf1ce_34 rfl ?_
  refine va_get (D := G.1) (ci := 1) (v := .int (nI n)) (C := RJ4) (T := TJ4) (N := 4) hx hb hts (fun w9 h9 => List.mem_cons_of_mem _ (List.mem_append_left _ (List.mem_append_right _ (h9)))) hown hK hP (0) (bw_0 G b v (nI n) (va_cpy t f 0 n k)) rfl 3 (by decide) (hts (.fieldLink RJ5 79 "java/lang/AbstractStringBuilder" "count" "I") (List.mem_of_getElem? (i := 1) rfl)) (fun _ h9 => h9) rfl dJ5_append_cf1ce_35 ?_
  refine lv_iload_n hx hb dJ5_append_cf1ce_38 rfl (lv_at hl 0 rfl) ?_
  refine lv_iadd hx hb dJ5_append_cf1ce_39 ?_
  rw [nI_add]
  refine va_put (D := G.1) (ci := 1) (v := .int (nI (n + k))) (ty := .int) (C := RJ4) (T := TJ4) (N := 4) hx hb hts (fun w9 h9 => List.mem_cons_of_mem _ (List.mem_append_left _ (List.mem_append_right _ (h9)))) tyJ4 tyJ4_ok nmJ4 hown hK hP (bw_D hbv) hS (0) (bw_0 G b v (nI n) (va_cpy t f 0 n k)) rfl 3 (by decide) (hts (.fieldLink RJ5 79 "java/lang/AbstractStringBuilder" "count" "I") (List.mem_of_getElem? (i := 1) rfl)) (fun _ h9 => h9) rfl (by decide +kernel) rfl rfl (Nat.le_of_ble_eq_true rfl) dJ5_append_cf1ce_40 (fun H locs hP hD hS => ?_)
  have hP : va_P G.1 vwCl (bw G b v (nI (n + k)) (va_cpy t f 0 n k)) H := by rw [← bw_c G b v (nI n) (nI (n + k)) (va_cpy t f 0 n k)]; exact hP
  clear hD
  refine lv_aload_n hx hb dJ5_append_cf1ce_43 rfl (lv_at hl 1 rfl) ?_
  exact o_aretM hx hb hr (by first | exact Or.inl ⟨_, rfl⟩ | exact Or.inr ⟨_, rfl⟩) hlocks hS dJ5_append_cf1ce_44 (hP)
set_option maxHeartbeats 4000000 in
set_option maxRecDepth 100000 in
theorem m_J4_append_15ec4 (l : Launch) (G : oG) (b v : Nat) (hbv : b ≠ v) (c : Int32) (f : Nat → Int32) (sz a w k : Nat) (t : Nat → Int32) (t1 t2 : Nat) (n : Nat) (hfit : bfit t k) (hn : n + k ≤ 16) : Met l yJ4_append_15ec4 wsJ4_append_15ec4 ({ frames := 4, cells := 0, slots := 0, locals := 127 } : Room) (va_Pc [.ref b, .ref a] (PB G (bw G b v (nI n) f) sz a w k t t1 t2 (bA b v))) (oQ (some (.ref b)) (fun H9 => va_P G.1 vwCl (bw G b v (nI (n + k)) (va_cpy t f 0 n k)) H9) (bA b v)) 0 0 (bA b v) := by
  refine oB_body (cc := cJ4_append_15ec4) (by decide +kernel) rfl (Nat.le_of_ble_eq_true rfl) ?_
  intro p e s m below meth c9 ls hx hb hml hr hlocks hown hts hP hK hN hE hz hl
  have hown : s.vm.findClass RJ4 = some m.cls := hown
  have hl : lv_has ls 2 [(0, .ref b), (1, .ref a)] := hl
  have hS : va_S (bA b v) s.heap s.heap [] := va_S.rf
  refine lv_aload_n hx hb dJ4_append_15ec4_0 rfl (lv_at hl 0 rfl) ?_
  refine lv_aload_n hx hb dJ4_append_15ec4_1 rfl (lv_at hl 1 rfl) ?_
  refine oB_cSU (q0 := 0) (ci := 1) [.ref a] [] (hK.1 1 _ rfl).2 ⟨hx, hb, hml, hown, hts⟩ (m_J5_append_cf1ce l G b v hbv (nI n) f sz a w k t t1 t2 n hfit (hn)) (va_cwSU 1 hts gJ4_append_15ec4_J5_append_cf1ce_s29 rfl rfl rfl (by decide +kernel) ⟨Nat.le_of_ble_eq_true rfl, Nat.le_of_ble_eq_true rfl⟩) hK hN hP hE hS (fun _ h => h) (Nat.le_trans hz hS.1) rfl rfl (bw_0 G b v (nI n) f) rfl hl.1 rfl (Nat.le_of_ble_eq_true rfl) dJ4_append_15ec4_2 ⟨(show 0 + 0 ≤ 0 by omega), (show 0 + 0 ≤ 0 by omega)⟩ (fun H locs hP _ _ hS => ?_)
  change W _ _ _ _ _ _ _ _ _ _ _ _ _ _ _ (F0 m 5 ls [.ref b])
  have hP : va_P G.1 vwCl (bw G b v (nI (n + k)) (va_cpy t f 0 n k)) H := hP
  refine lv_pop hx hb dJ4_append_15ec4_5 rfl ?_
  refine lv_aload_n hx hb dJ4_append_15ec4_6 rfl (lv_at hl 0 rfl) ?_
  exact o_aretM hx hb hr (by first | exact Or.inl ⟨_, rfl⟩ | exact Or.inr ⟨_, rfl⟩) hlocks hS dJ4_append_15ec4_7 (hP)
set_option maxHeartbeats 4000000 in
set_option maxRecDepth 100000 in
theorem m_J4_length_8abf5 (l : Launch) (G : oG) (b v : Nat) (hbv : b ≠ v) (c : Int32) (f : Nat → Int32) (sz a w k : Nat) (t : Nat → Int32) (t1 t2 : Nat) : Met l yJ4_length_8abf5 wsJ4_length_8abf5 ({ frames := 1, cells := 0, slots := 0, locals := 20 } : Room) (va_Pc [.ref b] (PB G (bw G b v c f) sz a w k t t1 t2 bF)) (oQ (some (.int c)) (fun H9 => va_P G.1 vwCl (bw G b v c f) H9) bF) 0 0 bF := by
  refine oB_body (cc := cJ4_length_8abf5) (by decide +kernel) rfl (Nat.le_of_ble_eq_true rfl) ?_
  intro p e s m below meth c9 ls hx hb hml hr hlocks hown hts hP hK hN hE hz hl
  have hown : s.vm.findClass RJ4 = some m.cls := hown
  have hl : lv_has ls 1 [(0, .ref b)] := hl
  have hS : va_S bF s.heap s.heap [] := va_S.rf
  refine lv_aload_n hx hb dJ4_length_8abf5_0 rfl (lv_at hl 0 rfl) ?_
  refine oB_cSU (q0 := 0) (ci := 1) [] [] (hK.1 1 _ rfl).2 ⟨hx, hb, hml, hown, hts⟩ (m_J5_length_8abf5 l G b v hbv c f sz a w k t t1 t2) (va_cwSU 0 hts gJ4_length_8abf5_J5_length_8abf5_s343 rfl rfl rfl (by decide +kernel) ⟨Nat.le_of_ble_eq_true rfl, Nat.le_of_ble_eq_true rfl⟩) hK hN hP hE hS (fun _ h => h) (Nat.le_trans hz hS.1) rfl rfl (bw_0 G b v c f) rfl hl.1 rfl (Nat.le_of_ble_eq_true rfl) dJ4_length_8abf5_1 ⟨(show 0 + 0 ≤ 0 by omega), (show 0 + 0 ≤ 0 by omega)⟩ (fun H locs hP _ _ hS => ?_)
  change W _ _ _ _ _ _ _ _ _ _ _ _ _ _ _ (F0 m 4 ls [.int c])
  have hP : va_P G.1 vwCl (bw G b v c f) H := hP
  exact o_iretM hx hb hr hlocks hS dJ4_length_8abf5_4 (hP) (rfl)
