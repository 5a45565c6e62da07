set_option maxHeartbeats 4000000 in
set_option maxRecDepth 100000 in
theorem m_X6_isIn (l : Launch) (G : oG) (wd : va_W) (v : Int32) (x : Int32) (y : Int32) : Met l yX6_isIn wsX6_isIn ({ frames := 0, cells := 0, slots := 0, locals := 0 } : Room) (va_Pc [.int v, .int x, .int y] (PW G wd)) (oR (some (.int (bI (oRg v x y))))) 0 0 (fun _ => False) := by
  refine o_body (cc := cX6_isIn) (by decide +kernel) rfl (Nat.le_of_ble_eq_true rfl) ?_
  intro p e s m below meth c ls hx hb hml hr hlocks hown hts hP hK hN hl
  have hown : s.vm.findClass RX6 = some m.cls := hown
  have hl : lv_has ls 3 [(0, .int v), (1, .int x), (2, .int y)] := hl
  refine lv_iload_n hx hb dX6_isIn_0 rfl (lv_at hl 0 rfl) ?_
  refine lv_iload_n hx hb dX6_isIn_1 rfl (lv_at hl 1 rfl) ?_
  refine lv_icmp_lt (tgt := 14) hx hb dX6_isIn_2 (by decide) (fun c2 => ?_) (fun c2 => ?_)
  · refine lv_iconst (v := 0) hx hb dX6_isIn_14 (by decide) ?_
    exact o_zretR hx hb hr hlocks dX6_isIn_15 (by first | exact Or.inl rfl | exact Or.inr rfl) (by simp [oRg, bI, ← Int32.not_lt, c2])
  · refine lv_iload_n hx hb dX6_isIn_5 rfl (lv_at hl 0 rfl) ?_
    refine lv_iload_n hx hb dX6_isIn_6 rfl (lv_at hl 2 rfl) ?_
    refine lv_icmp_gt (tgt := 14) hx hb dX6_isIn_7 (by decide) (fun c7 => ?_) (fun c7 => ?_)
    · refine lv_iconst (v := 0) hx hb dX6_isIn_14 (by decide) ?_
      exact o_zretR hx hb hr hlocks dX6_isIn_15 (by first | exact Or.inl rfl | exact Or.inr rfl) (by simp [oRg, bI, ← Int32.not_lt, c2, c7])
    · refine lv_iconst (v := 1) hx hb dX6_isIn_10 (by decide) ?_
      refine lv_goto (tgt := 15) hx hb dX6_isIn_11 (by decide) ?_
      exact o_zretR hx hb hr hlocks dX6_isIn_15 (by first | exact Or.inl rfl | exact Or.inr rfl) (by simp [oRg, bI, ← Int32.not_lt, c2, c7])
set_option maxHeartbeats 4000000 in
set_option maxRecDepth 100000 in
theorem m_X6_isStreet (l : Launch) (G : oG) (α β γ : oT) (nS : Nat) (nO : Nat) (nH : Nat) (hz : qOK α nS nO nH) (x : Int32) : Met l yX6_isStreet wsX6_isStreet ({ frames := 1, cells := 0, slots := 0, locals := 22 } : Room) (va_Pc [.ref (G.2.1 0), .int x] (PW G (mw G (z3 α β γ)))) (oR (some (.int (bI (oIn x nS))))) 0 0 (fun _ => False) := by
  refine o_body (cc := cX6_isStreet) (by decide +kernel) rfl (Nat.le_of_ble_eq_true rfl) ?_
  intro p e s m below meth c ls hx hb hml hr hlocks hown hts hP hK hN hl
  have hown : s.vm.findClass RX6 = some m.cls := hown
  have hl : lv_has ls 2 [(0, .ref (G.2.1 0)), (1, .int x)] := hl
  obtain ⟨hz1, hz2, hz3, hz4, hz5, hz6, hz7, hz8⟩ := id hz
  refine lv_iload_n hx hb dX6_isStreet_0 rfl (lv_at hl 1 rfl) ?_
  refine lv_iconst (v := 0) hx hb dX6_isStreet_1 (by decide) ?_
  refine lv_aload_n hx hb dX6_isStreet_2 rfl (lv_at hl 0 rfl) ?_
  refine va_get (D := G.1) (ci := 8) (v := .ref (ms G 0 0)) (C := RX6) (T := TX6) (N := 6) hx hb hts (fun w9 h9 => List.mem_cons_of_mem _ (List.mem_append_left _ (List.mem_append_right _ (h9)))) hown hK hP (0) (mw_M G (z3 α β γ)) rfl 4 (by decide) (hts (.fieldLink RX6 21 "OrganCensusModel" "s" "LOrganCensusModel$State;") (List.mem_of_getElem? (i := 1) rfl)) (fun _ h9 => h9) rfl dX6_isStreet_3 ?_
  refine va_getN (D := G.1) (ci := 7) (v := .int (α 40 0 1)) (C := RX5) (T := TX5) (N := 21) hx hb hts (fun w9 h9 => List.mem_cons_of_mem _ (List.mem_append_right _ (h9))) hown hK hP (3 + 18 * 0 + (0)) (mv_S G (z3 α β γ) (show 0 < 2 by decide)) rfl 1 (by decide) (va_Nw.use rfl (hN.1 (RX6, 32, RX5, "streets", "I", RX6) (List.mem_of_getElem? (i := 0) rfl))) (fun _ h9 => h9) rfl dX6_isStreet_6 ?_
  refine lv_iconst (v := 1) hx hb dX6_isStreet_9 (by decide) ?_
  refine lv_isub hx hb dX6_isStreet_10 ?_
  refine o_cSi [.int x, .int 0, .int ((α 40 0 1) - 1)] [] ⟨hx, hb, hml, hown, hts⟩ (m_X6_isIn l G (mw G (z3 α β γ)) x 0 ((α 40 0 1) - 1)) (va_cwS 3 hts gX6_isStreet_X6_isIn rfl rfl rfl (by decide +kernel) ⟨Nat.le_of_ble_eq_true rfl, Nat.le_of_ble_eq_true rfl⟩) hK hN hP rfl hl.1 rfl (Nat.le_of_ble_eq_true rfl) dX6_isStreet_11 ⟨Nat.zero_le _, Nat.zero_le _⟩ ?_
  exact o_zretR hx hb hr hlocks dX6_isStreet_14 (by exact bI_01 _) (by rw [hz1, oRg_p x (by omega)])
set_option maxHeartbeats 4000000 in
set_option maxRecDepth 100000 in
theorem m_X6_isOrgan (l : Launch) (G : oG) (α β γ : oT) (nS : Nat) (nO : Nat) (nH : Nat) (hz : qOK α nS nO nH) (x : Int32) : Met l yX6_isOrgan wsX6_isOrgan ({ frames := 1, cells := 0, slots := 0, locals := 22 } : Room) (va_Pc [.ref (G.2.1 0), .int x] (PW G (mw G (z3 α β γ)))) (oR (some (.int (bI (oIn x nO))))) 0 0 (fun _ => False) := by
  refine o_body (cc := cX6_isOrgan) (by decide +kernel) rfl (Nat.le_of_ble_eq_true rfl) ?_
  intro p e s m below meth c ls hx hb hml hr hlocks hown hts hP hK hN hl
  have hown : s.vm.findClass RX6 = some m.cls := hown
  have hl : lv_has ls 2 [(0, .ref (G.2.1 0)), (1, .int x)] := hl
  obtain ⟨hz1, hz2, hz3, hz4, hz5, hz6, hz7, hz8⟩ := id hz
  refine lv_iload_n hx hb dX6_isOrgan_0 rfl (lv_at hl 1 rfl) ?_
  refine lv_iconst (v := 0) hx hb dX6_isOrgan_1 (by decide) ?_
  refine lv_aload_n hx hb dX6_isOrgan_2 rfl (lv_at hl 0 rfl) ?_
  refine va_get (D := G.1) (ci := 8) (v := .ref (ms G 0 0)) (C := RX6) (T := TX6) (N := 6) hx hb hts (fun w9 h9 => List.mem_cons_of_mem _ (List.mem_append_left _ (List.mem_append_right _ (h9)))) hown hK hP (0) (mw_M G (z3 α β γ)) rfl 4 (by decide) (hts (.fieldLink RX6 21 "OrganCensusModel" "s" "LOrganCensusModel$State;") (List.mem_of_getElem? (i := 1) rfl)) (fun _ h9 => h9) rfl dX6_isOrgan_3 ?_
  refine va_getN (D := G.1) (ci := 7) (v := .int (α 40 0 2)) (C := RX5) (T := TX5) (N := 21) hx hb hts (fun w9 h9 => List.mem_cons_of_mem _ (List.mem_append_right _ (h9))) hown hK hP (3 + 18 * 0 + (0)) (mv_S G (z3 α β γ) (show 0 < 2 by decide)) rfl 7 (by decide) (va_Nw.use rfl (hN.1 (RX6, 39, RX5, "organs", "I", RX6) (List.mem_of_getElem? (i := 1) rfl))) (fun _ h9 => h9) rfl dX6_isOrgan_6 ?_
  refine lv_iconst (v := 1) hx hb dX6_isOrgan_9 (by decide) ?_
  refine lv_isub hx hb dX6_isOrgan_10 ?_
  refine o_cSi [.int x, .int 0, .int ((α 40 0 2) - 1)] [] ⟨hx, hb, hml, hown, hts⟩ (m_X6_isIn l G (mw G (z3 α β γ)) x 0 ((α 40 0 2) - 1)) (va_cwS 3 hts gX6_isOrgan_X6_isIn rfl rfl rfl (by decide +kernel) ⟨Nat.le_of_ble_eq_true rfl, Nat.le_of_ble_eq_true rfl⟩) hK hN hP rfl hl.1 rfl (Nat.le_of_ble_eq_true rfl) dX6_isOrgan_11 ⟨Nat.zero_le _, Nat.zero_le _⟩ ?_
  exact o_zretR hx hb hr hlocks dX6_isOrgan_14 (by exact bI_01 _) (by rw [hz3, oRg_p x (by omega)])
set_option maxHeartbeats 4000000 in
set_option maxRecDepth 100000 in
theorem m_X6_isPitch (l : Launch) (G : oG) (α β γ : oT) (nS : Nat) (nO : Nat) (nH : Nat) (hz : qOK α nS nO nH) (x : Int32) (y : Int32) : Met l yX6_isPitch wsX6_isPitch ({ frames := 2, cells := 0, slots := 0, locals := 43 } : Room) (va_Pc [.ref (G.2.1 0), .int x, .int y] (PW G (mw G (z3 α β γ)))) (oR (some (.int (bI (oIn x nS && oIn y (qNp α (oN x))))))) 0 0 (fun _ => False) := by
  refine o_body (cc := cX6_isPitch) (by decide +kernel) rfl (Nat.le_of_ble_eq_true rfl) ?_
  intro p e s m below meth c ls hx hb hml hr hlocks hown hts hP hK hN hl
  have hown : s.vm.findClass RX6 = some m.cls := hown
  have hl : lv_has ls 3 [(0, .ref (G.2.1 0)), (1, .int x), (2, .int y)] := hl
  obtain ⟨hz1, hz2, hz3, hz4, hz5, hz6, hz7, hz8⟩ := id hz
  refine lv_aload_n hx hb dX6_isPitch_0 rfl (lv_at hl 0 rfl) ?_
  refine lv_iload_n hx hb dX6_isPitch_1 rfl (lv_at hl 1 rfl) ?_
  refine o_cVi (q0 := 0) (ci := 8) [.int x] [] ⟨hx, hb, hml, hown, hts⟩ (m_X6_isStreet l G α β γ nS nO nH hz x) (cwV 1 hts gX6_isPitch_X6_isStreet rfl rfl rfl (by decide +kernel) ⟨Nat.le_of_ble_eq_true rfl, Nat.le_of_ble_eq_true rfl⟩) hK hN hP rfl rfl (mw_M G (z3 α β γ)) rfl hl.1 rfl (Nat.le_of_ble_eq_true rfl) dX6_isPitch_2 ⟨Nat.zero_le _, Nat.zero_le _⟩ ?_
  refine lv_if_eq (tgt := 31) hx hb dX6_isPitch_5 (by decide) (fun c5 => ?_) (fun c5 => ?_)
  · have c5 := bI_eq.mp c5
    refine lv_iconst (v := 0) hx hb dX6_isPitch_31 (by decide) ?_
    exact o_zretR hx hb hr hlocks dX6_isPitch_32 (by first | exact Or.inl rfl | exact Or.inr rfl) (by simp [bI, c5])
  · have c5 := bI_ne.mp c5
    have n5 := oIn_lt (by omega) c5
    refine lv_iload_n hx hb dX6_isPitch_8 rfl (lv_at hl 2 rfl) ?_
    refine lv_iconst (v := 0) hx hb dX6_isPitch_9 (by decide) ?_
    refine lv_aload_n hx hb dX6_isPitch_10 rfl (lv_at hl 0 rfl) ?_
    refine va_get (D := G.1) (ci := 8) (v := .ref (ms G 0 0)) (C := RX6) (T := TX6) (N := 6) hx hb hts (fun w9 h9 => List.mem_cons_of_mem _ (List.mem_append_left _ (List.mem_append_right _ (h9)))) hown hK hP (0) (mw_M G (z3 α β γ)) rfl 4 (by decide) (hts (.fieldLink RX6 21 "OrganCensusModel" "s" "LOrganCensusModel$State;") (List.mem_of_getElem? (i := 1) rfl)) (fun _ h9 => h9) rfl dX6_isPitch_11 ?_
    refine va_getN (D := G.1) (ci := 7) (v := .ref (ms G 0 1)) (C := RX5) (T := TX5) (N := 21) hx hb hts (fun w9 h9 => List.mem_cons_of_mem _ (List.mem_append_right _ (h9))) hown hK hP (3 + 18 * 0 + (0)) (mv_S G (z3 α β γ) (show 0 < 2 by decide)) rfl 2 (by decide) (va_Nw.use rfl (hN.1 (RX6, 46, RX5, "pitches", "[I", RX6) (List.mem_of_getElem? (i := 2) rfl))) (fun _ h9 => h9) rfl dX6_isPitch_14 ?_
    refine lv_iload_n hx hb dX6_isPitch_17 rfl (lv_at hl 1 rfl) ?_
    refine o_iald (k := oN x) hx hb hK hP (3 + 18 * 0 + (1)) 0 (mv_A1 G (z3 α β γ) (show 0 < 2 by decide)) rfl (oIn_x c5) (by omega) (by decide) dX6_isPitch_18 ?_
    refine lv_iconst (v := 1) hx hb dX6_isPitch_19 (by decide) ?_
    refine lv_isub hx hb dX6_isPitch_20 ?_
    refine o_cSi [.int y, .int 0, .int ((α 1 0 (oN x)) - 1)] [] ⟨hx, hb, hml, hown, hts⟩ (m_X6_isIn l G (mw G (z3 α β γ)) y 0 ((α 1 0 (oN x)) - 1)) (va_cwS 3 hts gX6_isPitch_X6_isIn rfl rfl rfl (by decide +kernel) ⟨Nat.le_of_ble_eq_true rfl, Nat.le_of_ble_eq_true rfl⟩) hK hN hP rfl hl.1 rfl (Nat.le_of_ble_eq_true rfl) dX6_isPitch_21 ⟨Nat.zero_le _, Nat.zero_le _⟩ ?_
    rw [show oRg y 0 (α 1 0 (oN x) - 1) = oIn y (qNp α (oN x)) from by rw [(hz7 (oN x) (by omega)).1]; exact oRg_p y (by have := (hz7 (oN x) (by omega)).2; omega)]
    refine lv_if_eq (tgt := 31) hx hb dX6_isPitch_24 (by decide) (fun c24 => ?_) (fun c24 => ?_)
    · have c24 := bI_eq.mp c24
      refine lv_iconst (v := 0) hx hb dX6_isPitch_31 (by decide) ?_
      exact o_zretR hx hb hr hlocks dX6_isPitch_32 (by first | exact Or.inl rfl | exact Or.inr rfl) (by simp [bI, c5, c24])
    · have c24 := bI_ne.mp c24
      have n24 := oIn_lt (by omega) c24
      refine lv_iconst (v := 1) hx hb dX6_isPitch_27 (by decide) ?_
      refine lv_goto (tgt := 32) hx hb dX6_isPitch_28 (by decide) ?_
      exact o_zretR hx hb hr hlocks dX6_isPitch_32 (by first | exact Or.inl rfl | exact Or.inr rfl) (by simp [bI, c5, c24])
set_option maxHeartbeats 4000000 in
set_option maxRecDepth 100000 in
theorem m_X6_thrown (l : Launch) (G : oG) (α β γ : oT) : Met l yX6_thrown wsX6_thrown ({ frames := 0, cells := 0, slots := 0, locals := 0 } : Room) (va_Pc [.ref (G.2.1 0)] (PW G (mw G (z3 α β γ)))) (oR (some (.int (γ 41 0 0)))) 0 0 (fun _ => False) := by
  refine o_body (cc := cX6_thrown) (by decide +kernel) rfl (Nat.le_of_ble_eq_true rfl) ?_
  intro p e s m below meth c ls hx hb hml hr hlocks hown hts hP hK hN hl
  have hown : s.vm.findClass RX6 = some m.cls := hown
  have hl : lv_has ls 1 [(0, .ref (G.2.1 0))] := hl
  refine lv_aload_n hx hb dX6_thrown_0 rfl (lv_at hl 0 rfl) ?_
  refine va_get (D := G.1) (ci := 8) (v := .int (γ 41 0 0)) (C := RX6) (T := TX6) (N := 6) hx hb hts (fun w9 h9 => List.mem_cons_of_mem _ (List.mem_append_right _ (h9))) hown hK hP (0) (mw_M G (z3 α β γ)) rfl 0 (by decide) (hts (.fieldLink RX6 28 "OrganCensusModel" "thrown" "I") (List.mem_of_getElem? (i := 1) rfl)) (fun _ h9 => h9) rfl dX6_thrown_1 ?_
  exact o_iretR hx hb hr hlocks dX6_thrown_4 (rfl)
set_option maxHeartbeats 4000000 in
set_option maxRecDepth 100000 in
theorem m_X6_no (l : Launch) (G : oG) (hI : wl_I G.2.1 39) (α β γ : oT) (x : Int32) : Met l yX6_no wsX6_no ({ frames := 0, cells := 0, slots := 0, locals := 0 } : Room) (va_Pc [.ref (G.2.1 0), .int x] (PW G (mw G (z3 α β γ)))) (oQ (some (.int (0))) (fun H9 => va_P G.1 vwCl (mw G (z3 α β (su γ 41 0 0 x))) H9) (mA G)) 0 0 (mA G) := by
  refine o_body (cc := cX6_no) (by decide +kernel) rfl (Nat.le_of_ble_eq_true rfl) ?_
  intro p e s m below meth c ls hx hb hml hr hlocks hown hts hP hK hN hl
  have hown : s.vm.findClass RX6 = some m.cls := hown
  have hl : lv_has ls 2 [(0, .ref (G.2.1 0)), (1, .int x)] := hl
  have hS : va_S (mA G) s.heap s.heap [] := va_S.rf
  refine lv_aload_n hx hb dX6_no_0 rfl (lv_at hl 0 rfl) ?_
  refine lv_iload_n hx hb dX6_no_1 rfl (lv_at hl 1 rfl) ?_
  refine va_put (D := G.1) (ci := 8) (v := .int x) (ty := .int) (C := RX6) (T := TX6) (N := 6) hx hb hts (fun w9 h9 => List.mem_cons_of_mem _ (List.mem_append_right _ (h9))) tyX6 tyX6_ok nmX6 hown hK hP (mw_D G _ hI) hS (0) (mw_M G (z3 α β γ)) rfl 0 (by decide) (hts (.fieldLink RX6 28 "OrganCensusModel" "thrown" "I") (List.mem_of_getElem? (i := 1) rfl)) (fun _ h9 => h9) rfl (by decide +kernel) rfl rfl (Nat.le_of_ble_eq_true rfl) dX6_no_2 (fun H locs hP hD hS => ?_)
  have hP : va_P G.1 vwCl (mw G (z3 α β (su γ 41 0 0 x))) H := by rw [← (mw_zP (a := α) (b := β) (c := γ) (τ' := su γ 41 0 0 x) (mw_uM0 G (z3 α β γ) x))]; exact hP
  clear hD
  refine lv_iconst (v := 0) hx hb dX6_no_5 (by decide) ?_
  exact o_iretM hx hb hr hlocks hS dX6_no_6 (hP) (rfl)
