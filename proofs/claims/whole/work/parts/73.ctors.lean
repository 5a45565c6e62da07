/-! Constructors -/
def X0F (G : oG) : Nat → va_E := fun k => match k with
  | 1 => .inl (G.2.2 0, 8, .inl (fun _ => 0))
  | 2 => .inl (G.2.2 0, 6, .inl (fun _ => 0))
  | 3 => .inl (G.2.2 0, 6, .inl (fun _ => 0))
  | _ => .inl (G.2.2 0, 6, .inl (fun _ => 0))
set_option maxHeartbeats 4000000 in
set_option maxRecDepth 100000 in
theorem m_X0_init (l : Launch) (G : oG) (a : Nat) : Met l yX0_init wsX0_init ({ frames := 1, cells := 4, slots := 26, locals := 13 } : Room) (va_Pc [.ref a] (PK G [(a, .inr (2, [.null, .null, .null, .null, .int 0, .int 0, .int 0, .int 0, .int 0, .int 0, .int 0, .int 0]))] (a + 1))) (oQ none (fun H9 => va_P G.1 vwCl (qw a 5 (o0 2 [.ref (a + 1), .ref (a + 2), .ref (a + 3), .ref (a + 4), .int 0, .int 0, .int 0, .int 0, .int 0, .int 0, .int 0, .int 0] (X0F G))) H9) (sFrom a)) 4 26 (sFrom a) := by
  refine k_body (cc := cX0_init) (by decide +kernel) rfl rfl (Nat.le_of_ble_eq_true rfl) ?_
  intro p e s m below meth c9 ls hx hb hml hr hlocks hin hown hts hP hK hN hz h2 h0 hl
  have hz0 := hz
  have hown : s.vm.findClass RX0 = some m.cls := hown
  have hl : lv_has ls 1 [(0, .ref a)] := hl
  have hS : va_S (sFrom a) s.heap s.heap [] := va_S.rf
  have hP : va_P G.1 vwCl (qw a 1 (o0 2 [.null, .null, .null, .null, .int 0, .int 0, .int 0, .int 0, .int 0, .int 0, .int 0, .int 0] (X0F G))) s.heap := hP
  refine lv_aload_n hx hb dX0_init_0 rfl (lv_at hl 0 rfl) ?_
  refine W.objInit hx hb hown (hts (.methodLink RX0 3 objectInit) (List.mem_of_getElem? (i := 1) rfl)) (hts (.instanceMethod objectInit) (List.mem_of_getElem? (i := 2) rfl)) (hts (.code objectInit ⟨#[0xb1]⟩ 1 none) (List.mem_of_getElem? (i := 3) rfl)) rfl (by rw [hml]; exact hl.1) rfl dX0_init_1 (Nat.le_of_ble_eq_true rfl) (Nat.le_of_ble_eq_true rfl) ?_
  change W _ _ _ _ _ _ _ _ _ _ _ _ _ _ _ (F0 m 4 ls [])
  refine lv_aload_n hx hb dX0_init_4 rfl (lv_at hl 0 rfl) ?_
  refine lv_bipush (v := 8) hx hb dX0_init_5 (by decide) ?_
  refine k_newP (N := 1) (atype := .int) hx hb (hts (.arrayClass .int) (List.mem_of_getElem? (i := 4) rfl)) rfl hK hP hz hS 0 rfl (a0 := (8, .inl (fun _ => 0))) (N' := 8) (fun cA => rfl) rfl (by decide) (by decide) (Nat.le_of_ble_eq_true rfl) (Nat.le_of_ble_eq_true rfl) (Nat.le_of_ble_eq_true rfl) dX0_init_7 (fun H hP hz hS => ?_)
  refine k_put (ci := 2) (N := 2) (v := .ref (a + 1)) (ty := .array .int) (C := RX0) (T := TX0) (n := 12) hin hx hb hts (fun w9 h9 => List.mem_cons_of_mem _ (List.mem_append_right _ (h9))) tyX0 tyX0_ok nmX0 hown hK hP hz (by decide) (by omega) hS rfl 0 (by decide) (hts (.fieldLink RX0 9 "OrganCensus$Organ" "tunes" "[I") (List.mem_of_getElem? (i := 5) rfl)) (fun _ h9 => h9) rfl rfl (by decide +kernel) rfl rfl (Nat.le_of_ble_eq_true rfl) dX0_init_9 (fun H locs hP hz hS => ?_)
  have hP : va_P G.1 vwCl (qw a 2 (o0 2 [.ref (a + 1), .null, .null, .null, .int 0, .int 0, .int 0, .int 0, .int 0, .int 0, .int 0, .int 0] (X0F G))) H := hP
  refine lv_aload_n hx hb dX0_init_12 rfl (lv_at hl 0 rfl) ?_
  refine lv_bipush (v := 6) hx hb dX0_init_13 (by decide) ?_
  refine k_newP (N := 2) (atype := .int) hx hb (hts (.arrayClass .int) (List.mem_of_getElem? (i := 4) rfl)) rfl hK hP hz hS 0 rfl (a0 := (6, .inl (fun _ => 0))) (N' := 6) (fun cA => rfl) rfl (by decide) (by decide) (Nat.le_of_ble_eq_true rfl) (Nat.le_of_ble_eq_true rfl) (Nat.le_of_ble_eq_true rfl) dX0_init_15 (fun H hP hz hS => ?_)
  refine k_put (ci := 2) (N := 3) (v := .ref (a + 2)) (ty := .array .int) (C := RX0) (T := TX0) (n := 12) hin hx hb hts (fun w9 h9 => List.mem_cons_of_mem _ (List.mem_append_right _ (h9))) tyX0 tyX0_ok nmX0 hown hK hP hz (by decide) (by omega) hS rfl 1 (by decide) (hts (.fieldLink RX0 15 "OrganCensus$Organ" "wear" "[I") (List.mem_of_getElem? (i := 6) rfl)) (fun _ h9 => h9) rfl rfl (by decide +kernel) rfl rfl (Nat.le_of_ble_eq_true rfl) dX0_init_17 (fun H locs hP hz hS => ?_)
  have hP : va_P G.1 vwCl (qw a 3 (o0 2 [.ref (a + 1), .ref (a + 2), .null, .null, .int 0, .int 0, .int 0, .int 0, .int 0, .int 0, .int 0, .int 0] (X0F G))) H := hP
  refine lv_aload_n hx hb dX0_init_20 rfl (lv_at hl 0 rfl) ?_
  refine lv_bipush (v := 6) hx hb dX0_init_21 (by decide) ?_
  refine k_newP (N := 3) (atype := .int) hx hb (hts (.arrayClass .int) (List.mem_of_getElem? (i := 4) rfl)) rfl hK hP hz hS 0 rfl (a0 := (6, .inl (fun _ => 0))) (N' := 6) (fun cA => rfl) rfl (by decide) (by decide) (Nat.le_of_ble_eq_true rfl) (Nat.le_of_ble_eq_true rfl) (Nat.le_of_ble_eq_true rfl) dX0_init_23 (fun H hP hz hS => ?_)
  refine k_put (ci := 2) (N := 4) (v := .ref (a + 3)) (ty := .array .int) (C := RX0) (T := TX0) (n := 12) hin hx hb hts (fun w9 h9 => List.mem_cons_of_mem _ (List.mem_append_right _ (h9))) tyX0 tyX0_ok nmX0 hown hK hP hz (by decide) (by omega) hS rfl 2 (by decide) (hts (.fieldLink RX0 18 "OrganCensus$Organ" "complaints" "[I") (List.mem_of_getElem? (i := 7) rfl)) (fun _ h9 => h9) rfl rfl (by decide +kernel) rfl rfl (Nat.le_of_ble_eq_true rfl) dX0_init_25 (fun H locs hP hz hS => ?_)
  have hP : va_P G.1 vwCl (qw a 4 (o0 2 [.ref (a + 1), .ref (a + 2), .ref (a + 3), .null, .int 0, .int 0, .int 0, .int 0, .int 0, .int 0, .int 0, .int 0] (X0F G))) H := hP
  refine lv_aload_n hx hb dX0_init_28 rfl (lv_at hl 0 rfl) ?_
  refine lv_bipush (v := 6) hx hb dX0_init_29 (by decide) ?_
  refine k_newP (N := 4) (atype := .int) hx hb (hts (.arrayClass .int) (List.mem_of_getElem? (i := 4) rfl)) rfl hK hP hz hS 0 rfl (a0 := (6, .inl (fun _ => 0))) (N' := 6) (fun cA => rfl) rfl (by decide) (by decide) (Nat.le_of_ble_eq_true rfl) (Nat.le_of_ble_eq_true rfl) (Nat.le_of_ble_eq_true rfl) dX0_init_31 (fun H hP hz hS => ?_)
  refine k_put (ci := 2) (N := 5) (v := .ref (a + 4)) (ty := .array .int) (C := RX0) (T := TX0) (n := 12) hin hx hb hts (fun w9 h9 => List.mem_cons_of_mem _ (List.mem_append_right _ (h9))) tyX0 tyX0_ok nmX0 hown hK hP hz (by decide) (by omega) hS rfl 3 (by decide) (hts (.fieldLink RX0 21 "OrganCensus$Organ" "banishedHours" "[I") (List.mem_of_getElem? (i := 8) rfl)) (fun _ h9 => h9) rfl rfl (by decide +kernel) rfl rfl (Nat.le_of_ble_eq_true rfl) dX0_init_33 (fun H locs hP hz hS => ?_)
  have hP : va_P G.1 vwCl (qw a 5 (o0 2 [.ref (a + 1), .ref (a + 2), .ref (a + 3), .ref (a + 4), .int 0, .int 0, .int 0, .int 0, .int 0, .int 0, .int 0, .int 0] (X0F G))) H := hP
  exact o_vretM hx hb hr hlocks hS dX0_init_36 hP
def X1F (G : oG) : Nat → va_E := fun k => match k with
  | _ => .inl (G.2.2 3, 320, .inl (fun _ => 0))
set_option maxHeartbeats 4000000 in
set_option maxRecDepth 100000 in
theorem m_X1_init (l : Launch) (G : oG) (a : Nat) : Met l yX1_init wsX1_init ({ frames := 1, cells := 1, slots := 320, locals := 13 } : Room) (va_Pc [.ref a] (PK G [(a, .inr (3, [.null, .int 0]))] (a + 1))) (oQ none (fun H9 => va_P G.1 vwCl (qw a 2 (o0 3 [.ref (a + 1), .int 0] (X1F G))) H9) (sFrom a)) 1 320 (sFrom a) := by
  refine k_body (cc := cX1_init) (by decide +kernel) rfl rfl (Nat.le_of_ble_eq_true rfl) ?_
  intro p e s m below meth c9 ls hx hb hml hr hlocks hin hown hts hP hK hN hz h2 h0 hl
  have hz0 := hz
  have hown : s.vm.findClass RX1 = some m.cls := hown
  have hl : lv_has ls 1 [(0, .ref a)] := hl
  have hS : va_S (sFrom a) s.heap s.heap [] := va_S.rf
  have hP : va_P G.1 vwCl (qw a 1 (o0 3 [.null, .int 0] (X1F G))) s.heap := hP
  refine lv_aload_n hx hb dX1_init_0 rfl (lv_at hl 0 rfl) ?_
  refine W.objInit hx hb hown (hts (.methodLink RX1 3 objectInit) (List.mem_of_getElem? (i := 1) rfl)) (hts (.instanceMethod objectInit) (List.mem_of_getElem? (i := 2) rfl)) (hts (.code objectInit ⟨#[0xb1]⟩ 1 none) (List.mem_of_getElem? (i := 3) rfl)) rfl (by rw [hml]; exact hl.1) rfl dX1_init_1 (Nat.le_of_ble_eq_true rfl) (Nat.le_of_ble_eq_true rfl) ?_
  change W _ _ _ _ _ _ _ _ _ _ _ _ _ _ _ (F0 m 4 ls [])
  refine lv_aload_n hx hb dX1_init_4 rfl (lv_at hl 0 rfl) ?_
  refine lv_sipush (v := 320) hx hb dX1_init_5 (by decide) ?_
  refine k_newP (N := 1) (atype := .byte) hx hb (hts (.arrayClass .byte) (List.mem_of_getElem? (i := 4) rfl)) rfl hK hP hz hS 3 rfl (a0 := (320, .inl (fun _ => 0))) (N' := 320) (fun cA => rfl) rfl (by decide) (by decide) (Nat.le_of_ble_eq_true rfl) (Nat.le_of_ble_eq_true rfl) (Nat.le_of_ble_eq_true rfl) dX1_init_8 (fun H hP hz hS => ?_)
  refine k_put (ci := 3) (N := 2) (v := .ref (a + 1)) (ty := .array .byte) (C := RX1) (T := TX1) (n := 2) hin hx hb hts (fun w9 h9 => List.mem_cons_of_mem _ (List.mem_append_right _ (h9))) tyX1 tyX1_ok nmX1 hown hK hP hz (by decide) (by omega) hS rfl 0 (by decide) (hts (.fieldLink RX1 9 "OrganCensus$Paper" "bytes" "[B") (List.mem_of_getElem? (i := 5) rfl)) (fun _ h9 => h9) rfl rfl (by decide +kernel) rfl rfl (Nat.le_of_ble_eq_true rfl) dX1_init_10 (fun H locs hP hz hS => ?_)
  have hP : va_P G.1 vwCl (qw a 2 (o0 3 [.ref (a + 1), .int 0] (X1F G))) H := hP
  exact o_vretM hx hb hr hlocks hS dX1_init_13 hP
def X5F (G : oG) : Nat → va_E := fun k => match k with
  | 1 => .inl (G.2.2 0, 6, .inl (fun _ => 0))
  | 2 => .inl (G.2.2 0, 36, .inl (fun _ => 0))
  | 3 => .inl (G.2.2 0, 36, .inl (fun _ => 0))
  | 4 => .inl (G.2.2 0, 6, .inl (fun _ => 0))
  | 5 => .inl (G.2.2 0, 6, .inl (fun _ => 0))
  | 6 => .inl (G.2.2 0, 8, .inl (fun _ => 0))
  | 7 => .inl (G.2.2 0, 8, .inl (fun _ => 0))
  | 8 => .inl (G.2.2 0, 8, .inl (fun _ => 0))
  | 9 => .inl (G.2.2 0, 8, .inl (fun _ => 0))
  | 10 => .inl (G.2.2 0, 8, .inl (fun _ => 0))
  | 11 => .inl (G.2.2 0, 8, .inl (fun _ => 0))
  | 12 => .inl (G.2.2 0, 8, .inl (fun _ => 0))
  | 13 => .inl (G.2.2 0, 48, .inl (fun _ => 0))
  | 14 => .inl (G.2.2 0, 48, .inl (fun _ => 0))
  | 15 => .inl (G.2.2 0, 48, .inl (fun _ => 0))
  | 16 => .inl (G.2.2 4, 8, .inl (fun _ => 0))
  | _ => .inl (G.2.2 4, 48, .inl (fun _ => 0))
set_option maxHeartbeats 4000000 in
set_option maxRecDepth 100000 in
theorem m_X5_init (l : Launch) (G : oG) (a a9 : Nat) : Met l yX5_init wsX5_init ({ frames := 1, cells := 17, slots := 346, locals := 13 } : Room) (va_Pc [.ref a, .ref a9] (PK G [(a, .inr (7, [.int 0, .int 0, .null, .null, .null, .null, .null, .int 0, .null, .null, .null, .null, .null, .null, .null, .null, .null, .null, .null, .null, .null]))] (a + 1))) (oQ none (fun H9 => va_P G.1 vwCl (qw a 18 (o0 7 [.int 0, .int 0, .ref (a + 1), .ref (a + 2), .ref (a + 3), .ref (a + 4), .ref (a + 5), .int 0, .ref (a + 6), .ref (a + 7), .ref (a + 8), .ref (a + 9), .ref (a + 10), .ref (a + 11), .ref (a + 12), .ref (a + 13), .ref (a + 14), .ref (a + 15), .ref (a + 16), .ref (a + 17), .ref a9] (X5F G))) H9) (sFrom a)) 17 346 (sFrom a) := by
  refine k_body (cc := cX5_init) (by decide +kernel) rfl rfl (Nat.le_of_ble_eq_true rfl) ?_
  intro p e s m below meth c9 ls hx hb hml hr hlocks hin hown hts hP hK hN hz h2 h0 hl
  have hz0 := hz
  have hown : s.vm.findClass RX5 = some m.cls := hown
  have hl : lv_has ls 2 [(0, .ref a), (1, .ref a9)] := hl
  have hS : va_S (sFrom a) s.heap s.heap [] := va_S.rf
  have hP : va_P G.1 vwCl (qw a 1 (o0 7 [.int 0, .int 0, .null, .null, .null, .null, .null, .int 0, .null, .null, .null, .null, .null, .null, .null, .null, .null, .null, .null, .null, .null] (X5F G))) s.heap := hP
  refine lv_aload_n hx hb dX5_init_0 rfl (lv_at hl 0 rfl) ?_
  refine lv_aload_n hx hb dX5_init_1 rfl (lv_at hl 1 rfl) ?_
  refine k_put (ci := 7) (N := 1) (v := .ref a9) (ty := .object "OrganCensusModel") (C := RX5) (T := TX5) (n := 21) hin hx hb hts (fun w9 h9 => List.mem_cons_of_mem _ (List.mem_append_right _ (h9))) tyX5 tyX5_ok nmX5 hown hK hP hz (by decide) (by omega) hS rfl 20 (by decide) (hts (.fieldLink RX5 3 "OrganCensusModel$State" "this$0" "LOrganCensusModel;") (List.mem_of_getElem? (i := 1) rfl)) (fun _ h9 => h9) rfl rfl (by decide +kernel) rfl rfl (Nat.le_of_ble_eq_true rfl) dX5_init_2 (fun H locs hP hz hS => ?_)
  have hP : va_P G.1 vwCl (qw a 1 (o0 7 [.int 0, .int 0, .null, .null, .null, .null, .null, .int 0, .null, .null, .null, .null, .null, .null, .null, .null, .null, .null, .null, .null, .ref a9] (X5F G))) H := hP
  refine lv_aload_n hx hb dX5_init_5 rfl (lv_at hl 0 rfl) ?_
  refine W.objInit hx hb hown (hts (.methodLink RX5 9 objectInit) (List.mem_of_getElem? (i := 2) rfl)) (hts (.instanceMethod objectInit) (List.mem_of_getElem? (i := 3) rfl)) (hts (.code objectInit ⟨#[0xb1]⟩ 1 none) (List.mem_of_getElem? (i := 4) rfl)) rfl (by rw [hml]; exact hl.1) rfl dX5_init_6 (Nat.le_of_ble_eq_true rfl) (Nat.le_of_ble_eq_true rfl) ?_
  change W _ _ _ _ _ _ _ _ _ _ _ _ _ _ _ (F0 m 9 ls [])
  refine lv_aload_n hx hb dX5_init_9 rfl (lv_at hl 0 rfl) ?_
  refine lv_bipush (v := 6) hx hb dX5_init_10 (by decide) ?_
  refine k_newP (N := 1) (atype := .int) hx hb (hts (.arrayClass .int) (List.mem_of_getElem? (i := 5) rfl)) rfl hK hP hz hS 0 rfl (a0 := (6, .inl (fun _ => 0))) (N' := 6) (fun cA => rfl) rfl (by decide) (by decide) (Nat.le_of_ble_eq_true rfl) (Nat.le_of_ble_eq_true rfl) (Nat.le_of_ble_eq_true rfl) dX5_init_12 (fun H hP hz hS => ?_)
  refine k_put (ci := 7) (N := 2) (v := .ref (a + 1)) (ty := .array .int) (C := RX5) (T := TX5) (n := 21) hin hx hb hts (fun w9 h9 => List.mem_cons_of_mem _ (List.mem_append_right _ (h9))) tyX5 tyX5_ok nmX5 hown hK hP hz (by decide) (by omega) hS rfl 2 (by decide) (hts (.fieldLink RX5 15 "OrganCensusModel$State" "pitches" "[I") (List.mem_of_getElem? (i := 6) rfl)) (fun _ h9 => h9) rfl rfl (by decide +kernel) rfl rfl (Nat.le_of_ble_eq_true rfl) dX5_init_14 (fun H locs hP hz hS => ?_)
  have hP : va_P G.1 vwCl (qw a 2 (o0 7 [.int 0, .int 0, .ref (a + 1), .null, .null, .null, .null, .int 0, .null, .null, .null, .null, .null, .null, .null, .null, .null, .null, .null, .null, .ref a9] (X5F G))) H := hP
  refine lv_aload_n hx hb dX5_init_17 rfl (lv_at hl 0 rfl) ?_
  refine lv_bipush (v := 36) hx hb dX5_init_18 (by decide) ?_
  refine k_newP (N := 2) (atype := .int) hx hb (hts (.arrayClass .int) (List.mem_of_getElem? (i := 5) rfl)) rfl hK hP hz hS 0 rfl (a0 := (36, .inl (fun _ => 0))) (N' := 36) (fun cA => rfl) rfl (by decide) (by decide) (Nat.le_of_ble_eq_true rfl) (Nat.le_of_ble_eq_true rfl) (Nat.le_of_ble_eq_true rfl) dX5_init_20 (fun H hP hz hS => ?_)
  refine k_put (ci := 7) (N := 3) (v := .ref (a + 2)) (ty := .array .int) (C := RX5) (T := TX5) (n := 21) hin hx hb hts (fun w9 h9 => List.mem_cons_of_mem _ (List.mem_append_right _ (h9))) tyX5 tyX5_ok nmX5 hown hK hP hz (by decide) (by omega) hS rfl 3 (by decide) (hts (.fieldLink RX5 19 "OrganCensusModel$State" "taste" "[I") (List.mem_of_getElem? (i := 7) rfl)) (fun _ h9 => h9) rfl rfl (by decide +kernel) rfl rfl (Nat.le_of_ble_eq_true rfl) dX5_init_22 (fun H locs hP hz hS => ?_)
  have hP : va_P G.1 vwCl (qw a 3 (o0 7 [.int 0, .int 0, .ref (a + 1), .ref (a + 2), .null, .null, .null, .int 0, .null, .null, .null, .null, .null, .null, .null, .null, .null, .null, .null, .null, .ref a9] (X5F G))) H := hP
  refine lv_aload_n hx hb dX5_init_25 rfl (lv_at hl 0 rfl) ?_
  refine lv_bipush (v := 36) hx hb dX5_init_26 (by decide) ?_
  refine k_newP (N := 3) (atype := .int) hx hb (hts (.arrayClass .int) (List.mem_of_getElem? (i := 5) rfl)) rfl hK hP hz hS 0 rfl (a0 := (36, .inl (fun _ => 0))) (N' := 36) (fun cA => rfl) rfl (by decide) (by decide) (Nat.le_of_ble_eq_true rfl) (Nat.le_of_ble_eq_true rfl) (Nat.le_of_ble_eq_true rfl) dX5_init_28 (fun H hP hz hS => ?_)
  refine k_put (ci := 7) (N := 4) (v := .ref (a + 3)) (ty := .array .int) (C := RX5) (T := TX5) (n := 21) hin hx hb hts (fun w9 h9 => List.mem_cons_of_mem _ (List.mem_append_right _ (h9))) tyX5 tyX5_ok nmX5 hown hK hP hz (by decide) (by omega) hS rfl 4 (by decide) (hts (.fieldLink RX5 22 "OrganCensusModel$State" "weary" "[I") (List.mem_of_getElem? (i := 8) rfl)) (fun _ h9 => h9) rfl rfl (by decide +kernel) rfl rfl (Nat.le_of_ble_eq_true rfl) dX5_init_30 (fun H locs hP hz hS => ?_)
  have hP : va_P G.1 vwCl (qw a 4 (o0 7 [.int 0, .int 0, .ref (a + 1), .ref (a + 2), .ref (a + 3), .null, .null, .int 0, .null, .null, .null, .null, .null, .null, .null, .null, .null, .null, .null, .null, .ref a9] (X5F G))) H := hP
  refine lv_aload_n hx hb dX5_init_33 rfl (lv_at hl 0 rfl) ?_
  refine lv_bipush (v := 6) hx hb dX5_init_34 (by decide) ?_
  refine k_newP (N := 4) (atype := .int) hx hb (hts (.arrayClass .int) (List.mem_of_getElem? (i := 5) rfl)) rfl hK hP hz hS 0 rfl (a0 := (6, .inl (fun _ => 0))) (N' := 6) (fun cA => rfl) rfl (by decide) (by decide) (Nat.le_of_ble_eq_true rfl) (Nat.le_of_ble_eq_true rfl) (Nat.le_of_ble_eq_true rfl) dX5_init_36 (fun H hP hz hS => ?_)
  refine k_put (ci := 7) (N := 5) (v := .ref (a + 4)) (ty := .array .int) (C := RX5) (T := TX5) (n := 21) hin hx hb hts (fun w9 h9 => List.mem_cons_of_mem _ (List.mem_append_right _ (h9))) tyX5 tyX5_ok nmX5 hown hK hP hz (by decide) (by omega) hS rfl 5 (by decide) (hts (.fieldLink RX5 25 "OrganCensusModel$State" "given" "[I") (List.mem_of_getElem? (i := 9) rfl)) (fun _ h9 => h9) rfl rfl (by decide +kernel) rfl rfl (Nat.le_of_ble_eq_true rfl) dX5_init_38 (fun H locs hP hz hS => ?_)
  have hP : va_P G.1 vwCl (qw a 5 (o0 7 [.int 0, .int 0, .ref (a + 1), .ref (a + 2), .ref (a + 3), .ref (a + 4), .null, .int 0, .null, .null, .null, .null, .null, .null, .null, .null, .null, .null, .null, .null, .ref a9] (X5F G))) H := hP
  refine lv_aload_n hx hb dX5_init_41 rfl (lv_at hl 0 rfl) ?_
  refine lv_bipush (v := 6) hx hb dX5_init_42 (by decide) ?_
  refine k_newP (N := 5) (atype := .int) hx hb (hts (.arrayClass .int) (List.mem_of_getElem? (i := 5) rfl)) rfl hK hP hz hS 0 rfl (a0 := (6, .inl (fun _ => 0))) (N' := 6) (fun cA => rfl) rfl (by decide) (by decide) (Nat.le_of_ble_eq_true rfl) (Nat.le_of_ble_eq_true rfl) (Nat.le_of_ble_eq_true rfl) dX5_init_44 (fun H hP hz hS => ?_)
  refine k_put (ci := 7) (N := 6) (v := .ref (a + 5)) (ty := .array .int) (C := RX5) (T := TX5) (n := 21) hin hx hb hts (fun w9 h9 => List.mem_cons_of_mem _ (List.mem_append_right _ (h9))) tyX5 tyX5_ok nmX5 hown hK hP hz (by decide) (by omega) hS rfl 6 (by decide) (hts (.fieldLink RX5 28 "OrganCensusModel$State" "sent" "[I") (List.mem_of_getElem? (i := 10) rfl)) (fun _ h9 => h9) rfl rfl (by decide +kernel) rfl rfl (Nat.le_of_ble_eq_true rfl) dX5_init_46 (fun H locs hP hz hS => ?_)
  have hP : va_P G.1 vwCl (qw a 6 (o0 7 [.int 0, .int 0, .ref (a + 1), .ref (a + 2), .ref (a + 3), .ref (a + 4), .ref (a + 5), .int 0, .null, .null, .null, .null, .null, .null, .null, .null, .null, .null, .null, .null, .ref a9] (X5F G))) H := hP
  refine lv_aload_n hx hb dX5_init_49 rfl (lv_at hl 0 rfl) ?_
  refine lv_bipush (v := 8) hx hb dX5_init_50 (by decide) ?_
  refine k_newP (N := 6) (atype := .int) hx hb (hts (.arrayClass .int) (List.mem_of_getElem? (i := 5) rfl)) rfl hK hP hz hS 0 rfl (a0 := (8, .inl (fun _ => 0))) (N' := 8) (fun cA => rfl) rfl (by decide) (by decide) (Nat.le_of_ble_eq_true rfl) (Nat.le_of_ble_eq_true rfl) (Nat.le_of_ble_eq_true rfl) dX5_init_52 (fun H hP hz hS => ?_)
  refine k_put (ci := 7) (N := 7) (v := .ref (a + 6)) (ty := .array .int) (C := RX5) (T := TX5) (n := 21) hin hx hb hts (fun w9 h9 => List.mem_cons_of_mem _ (List.mem_append_right _ (h9))) tyX5 tyX5_ok nmX5 hown hK hP hz (by decide) (by omega) hS rfl 8 (by decide) (hts (.fieldLink RX5 31 "OrganCensusModel$State" "at" "[I") (List.mem_of_getElem? (i := 11) rfl)) (fun _ h9 => h9) rfl rfl (by decide +kernel) rfl rfl (Nat.le_of_ble_eq_true rfl) dX5_init_54 (fun H locs hP hz hS => ?_)
  have hP : va_P G.1 vwCl (qw a 7 (o0 7 [.int 0, .int 0, .ref (a + 1), .ref (a + 2), .ref (a + 3), .ref (a + 4), .ref (a + 5), .int 0, .ref (a + 6), .null, .null, .null, .null, .null, .null, .null, .null, .null, .null, .null, .ref a9] (X5F G))) H := hP
  refine lv_aload_n hx hb dX5_init_57 rfl (lv_at hl 0 rfl) ?_
  refine lv_bipush (v := 8) hx hb dX5_init_58 (by decide) ?_
  refine k_newP (N := 7) (atype := .int) hx hb (hts (.arrayClass .int) (List.mem_of_getElem? (i := 5) rfl)) rfl hK hP hz hS 0 rfl (a0 := (8, .inl (fun _ => 0))) (N' := 8) (fun cA => rfl) rfl (by decide) (by decide) (Nat.le_of_ble_eq_true rfl) (Nat.le_of_ble_eq_true rfl) (Nat.le_of_ble_eq_true rfl) dX5_init_60 (fun H hP hz hS => ?_)
  refine k_put (ci := 7) (N := 8) (v := .ref (a + 7)) (ty := .array .int) (C := RX5) (T := TX5) (n := 21) hin hx hb hts (fun w9 h9 => List.mem_cons_of_mem _ (List.mem_append_right _ (h9))) tyX5 tyX5_ok nmX5 hown hK hP hz (by decide) (by omega) hS rfl 9 (by decide) (hts (.fieldLink RX5 34 "OrganCensusModel$State" "pitch" "[I") (List.mem_of_getElem? (i := 12) rfl)) (fun _ h9 => h9) rfl rfl (by decide +kernel) rfl rfl (Nat.le_of_ble_eq_true rfl) dX5_init_62 (fun H locs hP hz hS => ?_)
  have hP : va_P G.1 vwCl (qw a 8 (o0 7 [.int 0, .int 0, .ref (a + 1), .ref (a + 2), .ref (a + 3), .ref (a + 4), .ref (a + 5), .int 0, .ref (a + 6), .ref (a + 7), .null, .null, .null, .null, .null, .null, .null, .null, .null, .null, .ref a9] (X5F G))) H := hP
  refine lv_aload_n hx hb dX5_init_65 rfl (lv_at hl 0 rfl) ?_
  refine lv_bipush (v := 8) hx hb dX5_init_66 (by decide) ?_
  refine k_newP (N := 8) (atype := .int) hx hb (hts (.arrayClass .int) (List.mem_of_getElem? (i := 5) rfl)) rfl hK hP hz hS 0 rfl (a0 := (8, .inl (fun _ => 0))) (N' := 8) (fun cA => rfl) rfl (by decide) (by decide) (Nat.le_of_ble_eq_true rfl) (Nat.le_of_ble_eq_true rfl) (Nat.le_of_ble_eq_true rfl) dX5_init_68 (fun H hP hz hS => ?_)
  refine k_put (ci := 7) (N := 9) (v := .ref (a + 8)) (ty := .array .int) (C := RX5) (T := TX5) (n := 21) hin hx hb hts (fun w9 h9 => List.mem_cons_of_mem _ (List.mem_append_right _ (h9))) tyX5 tyX5_ok nmX5 hown hK hP hz (by decide) (by omega) hS rfl 10 (by decide) (hts (.fieldLink RX5 37 "OrganCensusModel$State" "left" "[I") (List.mem_of_getElem? (i := 13) rfl)) (fun _ h9 => h9) rfl rfl (by decide +kernel) rfl rfl (Nat.le_of_ble_eq_true rfl) dX5_init_70 (fun H locs hP hz hS => ?_)
  have hP : va_P G.1 vwCl (qw a 9 (o0 7 [.int 0, .int 0, .ref (a + 1), .ref (a + 2), .ref (a + 3), .ref (a + 4), .ref (a + 5), .int 0, .ref (a + 6), .ref (a + 7), .ref (a + 8), .null, .null, .null, .null, .null, .null, .null, .null, .null, .ref a9] (X5F G))) H := hP
  refine lv_aload_n hx hb dX5_init_73 rfl (lv_at hl 0 rfl) ?_
  refine lv_bipush (v := 8) hx hb dX5_init_74 (by decide) ?_
  refine k_newP (N := 9) (atype := .int) hx hb (hts (.arrayClass .int) (List.mem_of_getElem? (i := 5) rfl)) rfl hK hP hz hS 0 rfl (a0 := (8, .inl (fun _ => 0))) (N' := 8) (fun cA => rfl) rfl (by decide) (by decide) (Nat.le_of_ble_eq_true rfl) (Nat.le_of_ble_eq_true rfl) (Nat.le_of_ble_eq_true rfl) dX5_init_76 (fun H hP hz hS => ?_)
  refine k_put (ci := 7) (N := 10) (v := .ref (a + 9)) (ty := .array .int) (C := RX5) (T := TX5) (n := 21) hin hx hb hts (fun w9 h9 => List.mem_cons_of_mem _ (List.mem_append_right _ (h9))) tyX5 tyX5_ok nmX5 hown hK hP hz (by decide) (by omega) hS rfl 11 (by decide) (hts (.fieldLink RX5 40 "OrganCensusModel$State" "loud" "[I") (List.mem_of_getElem? (i := 14) rfl)) (fun _ h9 => h9) rfl rfl (by decide +kernel) rfl rfl (Nat.le_of_ble_eq_true rfl) dX5_init_78 (fun H locs hP hz hS => ?_)
  have hP : va_P G.1 vwCl (qw a 10 (o0 7 [.int 0, .int 0, .ref (a + 1), .ref (a + 2), .ref (a + 3), .ref (a + 4), .ref (a + 5), .int 0, .ref (a + 6), .ref (a + 7), .ref (a + 8), .ref (a + 9), .null, .null, .null, .null, .null, .null, .null, .null, .ref a9] (X5F G))) H := hP
  refine lv_aload_n hx hb dX5_init_81 rfl (lv_at hl 0 rfl) ?_
  refine lv_bipush (v := 8) hx hb dX5_init_82 (by decide) ?_
  refine k_newP (N := 10) (atype := .int) hx hb (hts (.arrayClass .int) (List.mem_of_getElem? (i := 5) rfl)) rfl hK hP hz hS 0 rfl (a0 := (8, .inl (fun _ => 0))) (N' := 8) (fun cA => rfl) rfl (by decide) (by decide) (Nat.le_of_ble_eq_true rfl) (Nat.le_of_ble_eq_true rfl) (Nat.le_of_ble_eq_true rfl) dX5_init_84 (fun H hP hz hS => ?_)
  refine k_put (ci := 7) (N := 11) (v := .ref (a + 10)) (ty := .array .int) (C := RX5) (T := TX5) (n := 21) hin hx hb hts (fun w9 h9 => List.mem_cons_of_mem _ (List.mem_append_right _ (h9))) tyX5 tyX5_ok nmX5 hown hK hP hz (by decide) (by omega) hS rfl 12 (by decide) (hts (.fieldLink RX5 43 "OrganCensusModel$State" "coins" "[I") (List.mem_of_getElem? (i := 15) rfl)) (fun _ h9 => h9) rfl rfl (by decide +kernel) rfl rfl (Nat.le_of_ble_eq_true rfl) dX5_init_86 (fun H locs hP hz hS => ?_)
  have hP : va_P G.1 vwCl (qw a 11 (o0 7 [.int 0, .int 0, .ref (a + 1), .ref (a + 2), .ref (a + 3), .ref (a + 4), .ref (a + 5), .int 0, .ref (a + 6), .ref (a + 7), .ref (a + 8), .ref (a + 9), .ref (a + 10), .null, .null, .null, .null, .null, .null, .null, .ref a9] (X5F G))) H := hP
  refine lv_aload_n hx hb dX5_init_89 rfl (lv_at hl 0 rfl) ?_
  refine lv_bipush (v := 8) hx hb dX5_init_90 (by decide) ?_
  refine k_newP (N := 11) (atype := .int) hx hb (hts (.arrayClass .int) (List.mem_of_getElem? (i := 5) rfl)) rfl hK hP hz hS 0 rfl (a0 := (8, .inl (fun _ => 0))) (N' := 8) (fun cA => rfl) rfl (by decide) (by decide) (Nat.le_of_ble_eq_true rfl) (Nat.le_of_ble_eq_true rfl) (Nat.le_of_ble_eq_true rfl) dX5_init_92 (fun H hP hz hS => ?_)
  refine k_put (ci := 7) (N := 12) (v := .ref (a + 11)) (ty := .array .int) (C := RX5) (T := TX5) (n := 21) hin hx hb hts (fun w9 h9 => List.mem_cons_of_mem _ (List.mem_append_right _ (h9))) tyX5 tyX5_ok nmX5 hown hK hP hz (by decide) (by omega) hS rfl 13 (by decide) (hts (.fieldLink RX5 46 "OrganCensusModel$State" "barrel" "[I") (List.mem_of_getElem? (i := 16) rfl)) (fun _ h9 => h9) rfl rfl (by decide +kernel) rfl rfl (Nat.le_of_ble_eq_true rfl) dX5_init_94 (fun H locs hP hz hS => ?_)
  have hP : va_P G.1 vwCl (qw a 12 (o0 7 [.int 0, .int 0, .ref (a + 1), .ref (a + 2), .ref (a + 3), .ref (a + 4), .ref (a + 5), .int 0, .ref (a + 6), .ref (a + 7), .ref (a + 8), .ref (a + 9), .ref (a + 10), .ref (a + 11), .null, .null, .null, .null, .null, .null, .ref a9] (X5F G))) H := hP
  refine lv_aload_n hx hb dX5_init_97 rfl (lv_at hl 0 rfl) ?_
  refine lv_bipush (v := 8) hx hb dX5_init_98 (by decide) ?_
  refine k_newP (N := 12) (atype := .int) hx hb (hts (.arrayClass .int) (List.mem_of_getElem? (i := 5) rfl)) rfl hK hP hz hS 0 rfl (a0 := (8, .inl (fun _ => 0))) (N' := 8) (fun cA => rfl) rfl (by decide) (by decide) (Nat.le_of_ble_eq_true rfl) (Nat.le_of_ble_eq_true rfl) (Nat.le_of_ble_eq_true rfl) dX5_init_100 (fun H hP hz hS => ?_)
  refine k_put (ci := 7) (N := 13) (v := .ref (a + 12)) (ty := .array .int) (C := RX5) (T := TX5) (n := 21) hin hx hb hts (fun w9 h9 => List.mem_cons_of_mem _ (List.mem_append_right _ (h9))) tyX5 tyX5_ok nmX5 hown hK hP hz (by decide) (by omega) hS rfl 14 (by decide) (hts (.fieldLink RX5 49 "OrganCensusModel$State" "place" "[I") (List.mem_of_getElem? (i := 17) rfl)) (fun _ h9 => h9) rfl rfl (by decide +kernel) rfl rfl (Nat.le_of_ble_eq_true rfl) dX5_init_102 (fun H locs hP hz hS => ?_)
  have hP : va_P G.1 vwCl (qw a 13 (o0 7 [.int 0, .int 0, .ref (a + 1), .ref (a + 2), .ref (a + 3), .ref (a + 4), .ref (a + 5), .int 0, .ref (a + 6), .ref (a + 7), .ref (a + 8), .ref (a + 9), .ref (a + 10), .ref (a + 11), .ref (a + 12), .null, .null, .null, .null, .null, .ref a9] (X5F G))) H := hP
  refine lv_aload_n hx hb dX5_init_105 rfl (lv_at hl 0 rfl) ?_
  refine lv_bipush (v := 48) hx hb dX5_init_106 (by decide) ?_
  refine k_newP (N := 13) (atype := .int) hx hb (hts (.arrayClass .int) (List.mem_of_getElem? (i := 5) rfl)) rfl hK hP hz hS 0 rfl (a0 := (48, .inl (fun _ => 0))) (N' := 48) (fun cA => rfl) rfl (by decide) (by decide) (Nat.le_of_ble_eq_true rfl) (Nat.le_of_ble_eq_true rfl) (Nat.le_of_ble_eq_true rfl) dX5_init_108 (fun H hP hz hS => ?_)
  refine k_put (ci := 7) (N := 14) (v := .ref (a + 13)) (ty := .array .int) (C := RX5) (T := TX5) (n := 21) hin hx hb hts (fun w9 h9 => List.mem_cons_of_mem _ (List.mem_append_right _ (h9))) tyX5 tyX5_ok nmX5 hown hK hP hz (by decide) (by omega) hS rfl 15 (by decide) (hts (.fieldLink RX5 52 "OrganCensusModel$State" "wear" "[I") (List.mem_of_getElem? (i := 18) rfl)) (fun _ h9 => h9) rfl rfl (by decide +kernel) rfl rfl (Nat.le_of_ble_eq_true rfl) dX5_init_110 (fun H locs hP hz hS => ?_)
  have hP : va_P G.1 vwCl (qw a 14 (o0 7 [.int 0, .int 0, .ref (a + 1), .ref (a + 2), .ref (a + 3), .ref (a + 4), .ref (a + 5), .int 0, .ref (a + 6), .ref (a + 7), .ref (a + 8), .ref (a + 9), .ref (a + 10), .ref (a + 11), .ref (a + 12), .ref (a + 13), .null, .null, .null, .null, .ref a9] (X5F G))) H := hP
  refine lv_aload_n hx hb dX5_init_113 rfl (lv_at hl 0 rfl) ?_
  refine lv_bipush (v := 48) hx hb dX5_init_114 (by decide) ?_
  refine k_newP (N := 14) (atype := .int) hx hb (hts (.arrayClass .int) (List.mem_of_getElem? (i := 5) rfl)) rfl hK hP hz hS 0 rfl (a0 := (48, .inl (fun _ => 0))) (N' := 48) (fun cA => rfl) rfl (by decide) (by decide) (Nat.le_of_ble_eq_true rfl) (Nat.le_of_ble_eq_true rfl) (Nat.le_of_ble_eq_true rfl) dX5_init_116 (fun H hP hz hS => ?_)
  refine k_put (ci := 7) (N := 15) (v := .ref (a + 14)) (ty := .array .int) (C := RX5) (T := TX5) (n := 21) hin hx hb hts (fun w9 h9 => List.mem_cons_of_mem _ (List.mem_append_right _ (h9))) tyX5 tyX5_ok nmX5 hown hK hP hz (by decide) (by omega) hS rfl 16 (by decide) (hts (.fieldLink RX5 55 "OrganCensusModel$State" "complaints" "[I") (List.mem_of_getElem? (i := 19) rfl)) (fun _ h9 => h9) rfl rfl (by decide +kernel) rfl rfl (Nat.le_of_ble_eq_true rfl) dX5_init_118 (fun H locs hP hz hS => ?_)
  have hP : va_P G.1 vwCl (qw a 15 (o0 7 [.int 0, .int 0, .ref (a + 1), .ref (a + 2), .ref (a + 3), .ref (a + 4), .ref (a + 5), .int 0, .ref (a + 6), .ref (a + 7), .ref (a + 8), .ref (a + 9), .ref (a + 10), .ref (a + 11), .ref (a + 12), .ref (a + 13), .ref (a + 14), .null, .null, .null, .ref a9] (X5F G))) H := hP
  refine lv_aload_n hx hb dX5_init_121 rfl (lv_at hl 0 rfl) ?_
  refine lv_bipush (v := 48) hx hb dX5_init_122 (by decide) ?_
  refine k_newP (N := 15) (atype := .int) hx hb (hts (.arrayClass .int) (List.mem_of_getElem? (i := 5) rfl)) rfl hK hP hz hS 0 rfl (a0 := (48, .inl (fun _ => 0))) (N' := 48) (fun cA => rfl) rfl (by decide) (by decide) (Nat.le_of_ble_eq_true rfl) (Nat.le_of_ble_eq_true rfl) (Nat.le_of_ble_eq_true rfl) dX5_init_124 (fun H hP hz hS => ?_)
  refine k_put (ci := 7) (N := 16) (v := .ref (a + 15)) (ty := .array .int) (C := RX5) (T := TX5) (n := 21) hin hx hb hts (fun w9 h9 => List.mem_cons_of_mem _ (List.mem_append_right _ (h9))) tyX5 tyX5_ok nmX5 hown hK hP hz (by decide) (by omega) hS rfl 17 (by decide) (hts (.fieldLink RX5 58 "OrganCensusModel$State" "banished" "[I") (List.mem_of_getElem? (i := 20) rfl)) (fun _ h9 => h9) rfl rfl (by decide +kernel) rfl rfl (Nat.le_of_ble_eq_true rfl) dX5_init_126 (fun H locs hP hz hS => ?_)
  have hP : va_P G.1 vwCl (qw a 16 (o0 7 [.int 0, .int 0, .ref (a + 1), .ref (a + 2), .ref (a + 3), .ref (a + 4), .ref (a + 5), .int 0, .ref (a + 6), .ref (a + 7), .ref (a + 8), .ref (a + 9), .ref (a + 10), .ref (a + 11), .ref (a + 12), .ref (a + 13), .ref (a + 14), .ref (a + 15), .null, .null, .ref a9] (X5F G))) H := hP
  refine lv_aload_n hx hb dX5_init_129 rfl (lv_at hl 0 rfl) ?_
  refine lv_bipush (v := 8) hx hb dX5_init_130 (by decide) ?_
  refine k_newP (N := 16) (atype := .boolean) hx hb (hts (.arrayClass .boolean) (List.mem_of_getElem? (i := 21) rfl)) rfl hK hP hz hS 4 rfl (a0 := (8, .inl (fun _ => 0))) (N' := 8) (fun cA => rfl) rfl (by decide) (by decide) (Nat.le_of_ble_eq_true rfl) (Nat.le_of_ble_eq_true rfl) (Nat.le_of_ble_eq_true rfl) dX5_init_132 (fun H hP hz hS => ?_)
  refine k_put (ci := 7) (N := 17) (v := .ref (a + 16)) (ty := .array .boolean) (C := RX5) (T := TX5) (n := 21) hin hx hb hts (fun w9 h9 => List.mem_cons_of_mem _ (List.mem_append_right _ (h9))) tyX5 tyX5_ok nmX5 hown hK hP hz (by decide) (by omega) hS rfl 18 (by decide) (hts (.fieldLink RX5 61 "OrganCensusModel$State" "went" "[Z") (List.mem_of_getElem? (i := 22) rfl)) (fun _ h9 => h9) rfl rfl (by decide +kernel) rfl rfl (Nat.le_of_ble_eq_true rfl) dX5_init_134 (fun H locs hP hz hS => ?_)
  have hP : va_P G.1 vwCl (qw a 17 (o0 7 [.int 0, .int 0, .ref (a + 1), .ref (a + 2), .ref (a + 3), .ref (a + 4), .ref (a + 5), .int 0, .ref (a + 6), .ref (a + 7), .ref (a + 8), .ref (a + 9), .ref (a + 10), .ref (a + 11), .ref (a + 12), .ref (a + 13), .ref (a + 14), .ref (a + 15), .ref (a + 16), .null, .ref a9] (X5F G))) H := hP
  refine lv_aload_n hx hb dX5_init_137 rfl (lv_at hl 0 rfl) ?_
  refine lv_bipush (v := 48) hx hb dX5_init_138 (by decide) ?_
  refine k_newP (N := 17) (atype := .boolean) hx hb (hts (.arrayClass .boolean) (List.mem_of_getElem? (i := 21) rfl)) rfl hK hP hz hS 4 rfl (a0 := (48, .inl (fun _ => 0))) (N' := 48) (fun cA => rfl) rfl (by decide) (by decide) (Nat.le_of_ble_eq_true rfl) (Nat.le_of_ble_eq_true rfl) (Nat.le_of_ble_eq_true rfl) dX5_init_140 (fun H hP hz hS => ?_)
  refine k_put (ci := 7) (N := 18) (v := .ref (a + 17)) (ty := .array .boolean) (C := RX5) (T := TX5) (n := 21) hin hx hb hts (fun w9 h9 => List.mem_cons_of_mem _ (List.mem_append_right _ (h9))) tyX5 tyX5_ok nmX5 hown hK hP hz (by decide) (by omega) hS rfl 19 (by decide) (hts (.fieldLink RX5 65 "OrganCensusModel$State" "isNew" "[Z") (List.mem_of_getElem? (i := 23) rfl)) (fun _ h9 => h9) rfl rfl (by decide +kernel) rfl rfl (Nat.le_of_ble_eq_true rfl) dX5_init_142 (fun H locs hP hz hS => ?_)
  have hP : va_P G.1 vwCl (qw a 18 (o0 7 [.int 0, .int 0, .ref (a + 1), .ref (a + 2), .ref (a + 3), .ref (a + 4), .ref (a + 5), .int 0, .ref (a + 6), .ref (a + 7), .ref (a + 8), .ref (a + 9), .ref (a + 10), .ref (a + 11), .ref (a + 12), .ref (a + 13), .ref (a + 14), .ref (a + 15), .ref (a + 16), .ref (a + 17), .ref a9] (X5F G))) H := hP
  exact o_vretM hx hb hr hlocks hS dX5_init_145 hP
def X2F (G : oG) : Nat → va_E := fun k => match k with
  | 1 => .inl (G.2.2 0, 24, .inl (fun _ => 0))
  | 2 => .inl (G.2.2 0, 6, .inl (fun _ => 0))
  | _ => .inl (G.2.2 0, 6, .inl (fun _ => 0))
def X2E (G : oG) : Nat → va_E := fun k => match k with
  | 1 => .inl (G.2.2 0, 24, .inl (fun _ => 0))
  | 2 => .inl (G.2.2 0, 6, .inl (o_fl (fun _ => 0) 5 6))
  | _ => .inl (G.2.2 0, 6, .inl (fun _ => 0))
set_option maxHeartbeats 4000000 in
set_option maxRecDepth 100000 in
theorem m_X2_init (l : Launch) (G : oG) (a : Nat) : Met l yX2_init wsX2_init ({ frames := 1, cells := 3, slots := 36, locals := 23 } : Room) (va_Pc [.ref a] (PK G [(a, .inr (4, [.null, .null, .null, .int 0, .int 0, .int 0]))] (a + 1))) (oQ none (fun H9 => va_P G.1 vwCl (qw a 4 (o0 4 [.ref (a + 1), .ref (a + 2), .ref (a + 3), .int 0, .int 0, .int 0] (X2E G))) H9) (sFrom a)) 3 36 (sFrom a) := by
  refine k_body (cc := cX2_init) (by decide +kernel) rfl rfl (Nat.le_of_ble_eq_true rfl) ?_
  intro p e s m below meth c9 ls hx hb hml hr hlocks hin hown hts hP hK hN hz h2 h0 hl
  have hz0 := hz
  have hown : s.vm.findClass RX2 = some m.cls := hown
  have hl : lv_has ls 1 [(0, .ref a)] := hl
  have hS : va_S (sFrom a) s.heap s.heap [] := va_S.rf
  have hP : va_P G.1 vwCl (qw a 1 (o0 4 [.null, .null, .null, .int 0, .int 0, .int 0] (X2F G))) s.heap := hP
  refine lv_aload_n hx hb dX2_init_0 rfl (lv_at hl 0 rfl) ?_
  refine W.objInit hx hb hown (hts (.methodLink RX2 3 objectInit) (List.mem_of_getElem? (i := 1) rfl)) (hts (.instanceMethod objectInit) (List.mem_of_getElem? (i := 2) rfl)) (hts (.code objectInit ⟨#[0xb1]⟩ 1 none) (List.mem_of_getElem? (i := 3) rfl)) rfl (by rw [hml]; exact hl.1) rfl dX2_init_1 (Nat.le_of_ble_eq_true rfl) (Nat.le_of_ble_eq_true rfl) ?_
  change W _ _ _ _ _ _ _ _ _ _ _ _ _ _ _ (F0 m 4 ls [])
  refine lv_aload_n hx hb dX2_init_4 rfl (lv_at hl 0 rfl) ?_
  refine lv_bipush (v := 24) hx hb dX2_init_5 (by decide) ?_
  refine k_newP (N := 1) (atype := .int) hx hb (hts (.arrayClass .int) (List.mem_of_getElem? (i := 4) rfl)) rfl hK hP hz hS 0 rfl (a0 := (24, .inl (fun _ => 0))) (N' := 24) (fun cA => rfl) rfl (by decide) (by decide) (Nat.le_of_ble_eq_true rfl) (Nat.le_of_ble_eq_true rfl) (Nat.le_of_ble_eq_true rfl) dX2_init_7 (fun H hP hz hS => ?_)
  refine k_put (ci := 4) (N := 2) (v := .ref (a + 1)) (ty := .array .int) (C := RX2) (T := TX2) (n := 6) hin hx hb hts (fun w9 h9 => List.mem_cons_of_mem _ (List.mem_append_right _ (h9))) tyX2 tyX2_ok nmX2 hown hK hP hz (by decide) (by omega) hS rfl 0 (by decide) (hts (.fieldLink RX2 9 "OrganCensus$Street" "passersByHour" "[I") (List.mem_of_getElem? (i := 5) rfl)) (fun _ h9 => h9) rfl rfl (by decide +kernel) rfl rfl (Nat.le_of_ble_eq_true rfl) dX2_init_9 (fun H locs hP hz hS => ?_)
  have hP : va_P G.1 vwCl (qw a 2 (o0 4 [.ref (a + 1), .null, .null, .int 0, .int 0, .int 0] (X2F G))) H := hP
  refine lv_aload_n hx hb dX2_init_12 rfl (lv_at hl 0 rfl) ?_
  refine lv_bipush (v := 6) hx hb dX2_init_13 (by decide) ?_
  refine k_newP (N := 2) (atype := .int) hx hb (hts (.arrayClass .int) (List.mem_of_getElem? (i := 4) rfl)) rfl hK hP hz hS 0 rfl (a0 := (6, .inl (fun _ => 0))) (N' := 6) (fun cA => rfl) rfl (by decide) (by decide) (Nat.le_of_ble_eq_true rfl) (Nat.le_of_ble_eq_true rfl) (Nat.le_of_ble_eq_true rfl) dX2_init_15 (fun H hP hz hS => ?_)
  refine k_put (ci := 4) (N := 3) (v := .ref (a + 2)) (ty := .array .int) (C := RX2) (T := TX2) (n := 6) hin hx hb hts (fun w9 h9 => List.mem_cons_of_mem _ (List.mem_append_right _ (h9))) tyX2 tyX2_ok nmX2 hown hK hP hz (by decide) (by omega) hS rfl 1 (by decide) (hts (.fieldLink RX2 15 "OrganCensus$Street" "tastes" "[I") (List.mem_of_getElem? (i := 6) rfl)) (fun _ h9 => h9) rfl rfl (by decide +kernel) rfl rfl (Nat.le_of_ble_eq_true rfl) dX2_init_17 (fun H locs hP hz hS => ?_)
  have hP : va_P G.1 vwCl (qw a 3 (o0 4 [.ref (a + 1), .ref (a + 2), .null, .int 0, .int 0, .int 0] (X2F G))) H := hP
  refine lv_aload_n hx hb dX2_init_20 rfl (lv_at hl 0 rfl) ?_
  refine lv_bipush (v := 6) hx hb dX2_init_21 (by decide) ?_
  refine k_newP (N := 3) (atype := .int) hx hb (hts (.arrayClass .int) (List.mem_of_getElem? (i := 4) rfl)) rfl hK hP hz hS 0 rfl (a0 := (6, .inl (fun _ => 0))) (N' := 6) (fun cA => rfl) rfl (by decide) (by decide) (Nat.le_of_ble_eq_true rfl) (Nat.le_of_ble_eq_true rfl) (Nat.le_of_ble_eq_true rfl) dX2_init_23 (fun H hP hz hS => ?_)
  refine k_put (ci := 4) (N := 4) (v := .ref (a + 3)) (ty := .array .int) (C := RX2) (T := TX2) (n := 6) hin hx hb hts (fun w9 h9 => List.mem_cons_of_mem _ (List.mem_append_right _ (h9))) tyX2 tyX2_ok nmX2 hown hK hP hz (by decide) (by omega) hS rfl 2 (by decide) (hts (.fieldLink RX2 18 "OrganCensus$Street" "weariness" "[I") (List.mem_of_getElem? (i := 7) rfl)) (fun _ h9 => h9) rfl rfl (by decide +kernel) rfl rfl (Nat.le_of_ble_eq_true rfl) dX2_init_25 (fun H locs hP hz hS => ?_)
  have hP : va_P G.1 vwCl (qw a 4 (o0 4 [.ref (a + 1), .ref (a + 2), .ref (a + 3), .int 0, .int 0, .int 0] (X2F G))) H := hP
  refine lv_aload_n hx hb dX2_init_28 rfl (lv_at hl 0 rfl) ?_
  refine va_get (D := G.1) (ci := 4) (v := .ref (a + 2)) (C := RX2) (T := TX2) (N := 6) hx hb hts (fun w9 h9 => List.mem_cons_of_mem _ (List.mem_append_right _ (h9))) hown hK hP (0) (qw_at0 (by decide)) rfl 1 (by decide) (hts (.fieldLink RX2 15 "OrganCensus$Street" "tastes" "[I") (List.mem_of_getElem? (i := 6) rfl)) (fun _ h9 => h9) rfl dX2_init_29 ?_
  refine lv_iconst (v := 5) hx hb dX2_init_32 (by decide) ?_
  refine o_cSmv [.ref (a + 2), .int 5] [] ⟨hx, hb, hml, hown, hts⟩ (m_J7_fill l G _ (sFrom a) (q := 2) (a := a + 2) (n := 6) (f := fun _ => 0) 5 (wl_at (by decide) rfl) (by decide) (qw_D a 4 _)) (va_cwS 2 hts gX2_init_J7_fill_53178 rfl rfl rfl (by decide +kernel) ⟨(Nat.le_of_ble_eq_true rfl), (Nat.le_of_ble_eq_true rfl)⟩) hK hN hP hS rfl hl.1 rfl (Nat.le_of_ble_eq_true rfl) dX2_init_33 ⟨(Nat.le_of_ble_eq_true rfl), (Nat.le_of_ble_eq_true rfl)⟩ (fun H locs hP hS => ?_)
  exact o_vretM hx hb hr hlocks hS dX2_init_36 (by
    have e9 : (qw a 4 (o0 4 [.ref (a + 1), .ref (a + 2), .ref (a + 3), .int 0, .int 0, .int 0] (X2F G))).set 2 (a + 2, .inl (G.2.2 0, 6, .inl (o_fl (fun _ => 0) 5 6))) = qw a 4 (o0 4 [.ref (a + 1), .ref (a + 2), .ref (a + 3), .int 0, .int 0, .int 0] (X2E G)) := wl_set (g := ga a) (fun j hj => by
      rcases (show j = 0 ∨ j = 1 ∨ j = 2 ∨ j = 3 by omega) with rfl | rfl | rfl | rfl <;> rfl)
    have h8 : va_P G.1 vwCl ((qw a 4 (o0 4 [.ref (a + 1), .ref (a + 2), .ref (a + 3), .int 0, .int 0, .int 0] (X2F G))).set 2 (a + 2, .inl (G.2.2 0, 6, .inl (o_fl (fun _ => 0) 5 6)))) H := hP
    rw [e9] at h8
    exact h8)
