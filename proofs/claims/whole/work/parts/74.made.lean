/-! Constructors that make other objects -/
def X0s (b : Nat) : List Value := [.ref (b + 1), .ref (b + 2), .ref (b + 3), .ref (b + 4), .int 0, .int 0, .int 0, .int 0, .int 0, .int 0, .int 0, .int 0]
def X1s (b : Nat) : List Value := [.ref (b + 1), .int 0]
def X2s (b : Nat) : List Value := [.ref (b + 1), .ref (b + 2), .ref (b + 3), .int 0, .int 0, .int 0]
def X5s (b a9 : Nat) : List Value := [.int 0, .int 0, .ref (b + 1), .ref (b + 2), .ref (b + 3), .ref (b + 4), .ref (b + 5), .int 0, .ref (b + 6), .ref (b + 7), .ref (b + 8), .ref (b + 9), .ref (b + 10), .ref (b + 11), .ref (b + 12), .ref (b + 13), .ref (b + 14), .ref (b + 15), .ref (b + 16), .ref (b + 17), .ref a9]
def X6A (G : oG) : Nat → va_E := fun k => match k with
  | 1 => .inl (G.2.2 0, 144, .inl (fun _ => 0))
  | _ => .inl (G.2.2 0, 1000, .inl (fun _ => 0))
def X6F (G : oG) (a : Nat) : Nat → va_E := fun k => if k < 3 then X6A G k else if k < 21 then o0 7 (X5s (a + 3) a) (X5F G) (k - 3) else o0 7 (X5s (a + 21) a) (X5F G) (k - 21)
set_option maxHeartbeats 4000000 in
set_option maxRecDepth 100000 in
theorem m_X6_init (l : Launch) (G : oG) (a : Nat) : Met l yX6_init wsX6_init ({ frames := 2, cells := 38, slots := 1878, locals := 34 } : Room) (va_Pc [.ref a] (PK G [(a, .inr (8, [.int 0, .null, .null, .int 0, .null, .null]))] (a + 1))) (oQ none (fun H9 => va_P G.1 vwCl (qw a 39 (o0 8 [.int 0, .ref (a + 1), .ref (a + 2), .int 0, .ref (a + 3), .ref (a + 21)] (X6F G a))) H9) (sFrom a)) 38 1878 (sFrom a) := by
  refine k_body (cc := cX6_init) (by decide +kernel) rfl rfl (Nat.le_of_ble_eq_true rfl) ?_
  intro p e s m below meth c9 ls hx hb hml hr hlocks hin hown hts hP hK hN hz h2 h0 hl
  have hz0 := hz
  have hown : s.vm.findClass RX6 = some m.cls := hown
  have hl : lv_has ls 1 [(0, .ref a)] := hl
  have hS : va_S (sFrom a) s.heap s.heap [] := va_S.rf
  have hP : va_P G.1 vwCl (qw a 1 (o0 8 [.int 0, .null, .null, .int 0, .null, .null] (X6F G a))) s.heap := hP
  refine lv_aload_n hx hb dX6_init_0 rfl (lv_at hl 0 rfl) ?_
  refine W.objInit hx hb hown (hts (.methodLink RX6 1 objectInit) (List.mem_of_getElem? (i := 1) rfl)) (hts (.instanceMethod objectInit) (List.mem_of_getElem? (i := 2) rfl)) (hts (.code objectInit ⟨#[0xb1]⟩ 1 none) (List.mem_of_getElem? (i := 3) rfl)) rfl (by rw [hml]; exact hl.1) rfl dX6_init_1 (Nat.le_of_ble_eq_true rfl) (Nat.le_of_ble_eq_true rfl) ?_
  change W _ _ _ _ _ _ _ _ _ _ _ _ _ _ _ (F0 m 4 ls [])
  refine lv_aload_n hx hb dX6_init_4 rfl (lv_at hl 0 rfl) ?_
  refine lv_sipush (v := 144) hx hb dX6_init_5 (by decide) ?_
  refine k_newP (N := 1) (atype := .int) hx hb (hts (.arrayClass .int) (List.mem_of_getElem? (i := 4) rfl)) rfl hK hP hz hS 0 rfl (a0 := (144, .inl (fun _ => 0))) (N' := 144) (fun cA => rfl) rfl (by decide) (by decide) (Nat.le_of_ble_eq_true rfl) (Nat.le_of_ble_eq_true rfl) (Nat.le_of_ble_eq_true rfl) dX6_init_8 (fun H hP hz hS => ?_)
  refine k_put (ci := 8) (N := 2) (v := .ref (a + 1)) (ty := .array .int) (C := RX6) (T := TX6) (n := 6) hin hx hb hts (fun w9 h9 => List.mem_cons_of_mem _ (List.mem_append_left _ (List.mem_append_right _ (h9)))) tyX6 tyX6_ok nmX6 hown hK hP hz (by decide) (by omega) hS rfl 1 (by decide) (hts (.fieldLink RX6 9 "OrganCensusModel" "passers" "[I") (List.mem_of_getElem? (i := 5) rfl)) (fun _ h9 => h9) rfl rfl (by decide +kernel) rfl rfl (Nat.le_of_ble_eq_true rfl) dX6_init_10 (fun H locs hP hz hS => ?_)
  have hP : va_P G.1 vwCl (qw a 2 (o0 8 [.int 0, .ref (a + 1), .null, .int 0, .null, .null] (X6F G a))) H := hP
  refine lv_aload_n hx hb dX6_init_13 rfl (lv_at hl 0 rfl) ?_
  refine lv_sipush (v := 1000) hx hb dX6_init_14 (by decide) ?_
  refine k_newP (N := 2) (atype := .int) hx hb (hts (.arrayClass .int) (List.mem_of_getElem? (i := 4) rfl)) rfl hK hP hz hS 0 rfl (a0 := (1000, .inl (fun _ => 0))) (N' := 1000) (fun cA => rfl) rfl (by decide) (by decide) (Nat.le_of_ble_eq_true rfl) (Nat.le_of_ble_eq_true rfl) (Nat.le_of_ble_eq_true rfl) dX6_init_17 (fun H hP hz hS => ?_)
  refine k_put (ci := 8) (N := 3) (v := .ref (a + 2)) (ty := .array .int) (C := RX6) (T := TX6) (n := 6) hin hx hb hts (fun w9 h9 => List.mem_cons_of_mem _ (List.mem_append_left _ (List.mem_append_right _ (h9)))) tyX6 tyX6_ok nmX6 hown hK hP hz (by decide) (by omega) hS rfl 2 (by decide) (hts (.fieldLink RX6 13 "OrganCensusModel" "paper" "[I") (List.mem_of_getElem? (i := 6) rfl)) (fun _ h9 => h9) rfl rfl (by decide +kernel) rfl rfl (Nat.le_of_ble_eq_true rfl) dX6_init_19 (fun H locs hP hz hS => ?_)
  have hP : va_P G.1 vwCl (qw a 3 (o0 8 [.int 0, .ref (a + 1), .ref (a + 2), .int 0, .null, .null] (X6F G a))) H := hP
  refine lv_aload_n hx hb dX6_init_22 rfl (lv_at hl 0 rfl) ?_
  refine k_newC (N := 3) (ci := 7) (C := RX5) (T := TX5) (n := 21) hx hb hts (fun w9 h9 => List.mem_cons_of_mem _ (List.mem_append_right _ (h9))) tyX5 tyX5_ok hown (hts (.classLink RX6 16 RX5) (List.mem_of_getElem? (i := 7) rfl)) (hts (.instantiable RX5 21) (List.mem_of_getElem? (i := 8) rfl)) (hts (.initialized RX5) (List.mem_of_getElem? (i := 9) rfl)) hK hP hz hS rfl (fs := [.int 0, .int 0, .null, .null, .null, .null, .null, .int 0, .null, .null, .null, .null, .null, .null, .null, .null, .null, .null, .null, .null, .null]) (by decide +kernel) (Nat.le_of_ble_eq_true rfl) (Nat.le_of_ble_eq_true rfl) dX6_init_23 (fun H hP hPn hz hS => ?_)
  refine lv_dup hx hb dX6_init_26 rfl ?_
  refine lv_aload_n hx hb dX6_init_27 rfl (lv_at hl 0 rfl) ?_
  refine k_callN (b := a + 3) (N := 3) [.ref a] [.ref (a + 3), .ref a] ⟨hx, hb, hml, hown, hts⟩ (m_X5_init l G (a + 3) a) ⟨va_cnB 1 hts gX6_init_X5_init_n18 rfl rfl rfl (hN.2 (RX6, 18, yX5_init, RX6) (List.mem_of_getElem? (i := 2) rfl)) (hts (.initialized RX5) (List.mem_of_getElem? (i := 9) rfl)) (by decide +kernel) ⟨(Nat.le_of_ble_eq_true rfl), (Nat.le_of_ble_eq_true rfl)⟩, rfl, (hts (.instanceMethod yX5_init) (List.mem_of_getElem? (i := 12) rfl))⟩ hK hN h2 h0 hP hPn hz rfl rfl hS rfl hl.1 rfl (Nat.le_of_ble_eq_true rfl) dX6_init_28 ⟨(Nat.le_of_ble_eq_true rfl), (Nat.le_of_ble_eq_true rfl)⟩ (fun H locs hPj hP hz9 hS => ?_)
  have hP : va_P G.1 vwCl (qw a 21 (o0 8 [.int 0, .ref (a + 1), .ref (a + 2), .int 0, .null, .null] (X6F G a))) H := qw_join (N := 3) (M := 18) hP hPj (fun j hj => (by rw [show o0 8 _ (X6F G a) (3 + j) = X6F G a (3 + j) from if_neg (by omega)]; unfold X6F; rw [if_neg (by omega), if_pos (by omega), Nat.add_sub_cancel_left]; rfl))
  have hz : H.size = a + 21 := by have h9 := (hP 20 _ (wl_at (by decide) rfl)).lt; simp only [ga] at h9; omega
  refine k_put (ci := 8) (N := 21) (v := .ref (a + 3)) (ty := .object "OrganCensusModel$State") (C := RX6) (T := TX6) (n := 6) hin hx hb hts (fun w9 h9 => List.mem_cons_of_mem _ (List.mem_append_left _ (List.mem_append_right _ (h9)))) tyX6 tyX6_ok nmX6 hown hK hP hz (by decide) (by omega) hS rfl 4 (by decide) (hts (.fieldLink RX6 21 "OrganCensusModel" "s" "LOrganCensusModel$State;") (List.mem_of_getElem? (i := 10) rfl)) (fun _ h9 => h9) rfl rfl (by decide +kernel) rfl rfl (Nat.le_of_ble_eq_true rfl) dX6_init_31 (fun H locs hP hz hS => ?_)
  have hP : va_P G.1 vwCl (qw a 21 (o0 8 [.int 0, .ref (a + 1), .ref (a + 2), .int 0, .ref (a + 3), .null] (X6F G a))) H := hP
  refine lv_aload_n hx hb dX6_init_34 rfl (lv_at hl 0 rfl) ?_
  refine k_newC (N := 21) (ci := 7) (C := RX5) (T := TX5) (n := 21) hx hb hts (fun w9 h9 => List.mem_cons_of_mem _ (List.mem_append_right _ (h9))) tyX5 tyX5_ok hown (hts (.classLink RX6 16 RX5) (List.mem_of_getElem? (i := 7) rfl)) (hts (.instantiable RX5 21) (List.mem_of_getElem? (i := 8) rfl)) (hts (.initialized RX5) (List.mem_of_getElem? (i := 9) rfl)) hK hP hz hS rfl (fs := [.int 0, .int 0, .null, .null, .null, .null, .null, .int 0, .null, .null, .null, .null, .null, .null, .null, .null, .null, .null, .null, .null, .null]) (by decide +kernel) (Nat.le_of_ble_eq_true rfl) (Nat.le_of_ble_eq_true rfl) dX6_init_35 (fun H hP hPn hz hS => ?_)
  refine lv_dup hx hb dX6_init_38 rfl ?_
  refine lv_aload_n hx hb dX6_init_39 rfl (lv_at hl 0 rfl) ?_
  refine k_callN (b := a + 21) (N := 21) [.ref a] [.ref (a + 21), .ref a] ⟨hx, hb, hml, hown, hts⟩ (m_X5_init l G (a + 21) a) ⟨va_cnB 1 hts gX6_init_X5_init_n18 rfl rfl rfl (hN.2 (RX6, 18, yX5_init, RX6) (List.mem_of_getElem? (i := 2) rfl)) (hts (.initialized RX5) (List.mem_of_getElem? (i := 9) rfl)) (by decide +kernel) ⟨(Nat.le_of_ble_eq_true rfl), (Nat.le_of_ble_eq_true rfl)⟩, rfl, (hts (.instanceMethod yX5_init) (List.mem_of_getElem? (i := 12) rfl))⟩ hK hN h2 h0 hP hPn hz rfl rfl hS rfl hl.1 rfl (Nat.le_of_ble_eq_true rfl) dX6_init_40 ⟨(Nat.le_of_ble_eq_true rfl), (Nat.le_of_ble_eq_true rfl)⟩ (fun H locs hPj hP hz9 hS => ?_)
  have hP : va_P G.1 vwCl (qw a 39 (o0 8 [.int 0, .ref (a + 1), .ref (a + 2), .int 0, .ref (a + 3), .null] (X6F G a))) H := qw_join (N := 21) (M := 18) hP hPj (fun j hj => (by rw [show o0 8 _ (X6F G a) (21 + j) = X6F G a (21 + j) from if_neg (by omega)]; unfold X6F; rw [if_neg (by omega), if_neg (by omega), Nat.add_sub_cancel_left]; rfl))
  have hz : H.size = a + 39 := by have h9 := (hP 38 _ (wl_at (by decide) rfl)).lt; simp only [ga] at h9; omega
  refine k_put (ci := 8) (N := 39) (v := .ref (a + 21)) (ty := .object "OrganCensusModel$State") (C := RX6) (T := TX6) (n := 6) hin hx hb hts (fun w9 h9 => List.mem_cons_of_mem _ (List.mem_append_left _ (List.mem_append_right _ (h9)))) tyX6 tyX6_ok nmX6 hown hK hP hz (by decide) (by omega) hS rfl 5 (by decide) (hts (.fieldLink RX6 25 "OrganCensusModel" "ahead" "LOrganCensusModel$State;") (List.mem_of_getElem? (i := 11) rfl)) (fun _ h9 => h9) rfl rfl (by decide +kernel) rfl rfl (Nat.le_of_ble_eq_true rfl) dX6_init_43 (fun H locs hP hz hS => ?_)
  have hP : va_P G.1 vwCl (qw a 39 (o0 8 [.int 0, .ref (a + 1), .ref (a + 2), .int 0, .ref (a + 3), .ref (a + 21)] (X6F G a))) H := hP
  exact o_vretM hx hb hr hlocks hS dX6_init_46 hP
