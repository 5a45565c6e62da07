set_option maxHeartbeats 4000000 in
set_option maxRecDepth 100000 in
theorem m_X6_isIn (l : Launch) (G : oG) (wd : va_W) (v : Int32) (x : Int32) (y : Int32) : Met l yX6_isIn wsX6_isIn ({ frames := 0, cells := 0, slots := 0, locals := 0 } : Room) (va_Pc [.int v, .int x, .int y] (PW G wd)) (oR (some (.int (bI (oRg v x y))))) 0 0 (fun _ => False) := by
  refine o_body (cc := cX6_isIn) (by decide +kernel) rfl (Nat.le_of_ble_eq_true rfl) ?_
  intro p e s m below meth c ls hx hb hml hr hlocks hown hts hP hK hN hl
  have hown : s.vm.findClass RX6 = some m.cls := hown
  have hl : lv_has ls 3 [(0, .int v), (1, .int x), (2, .int y)] := hl
  refine lv_iload_n hx hb dX6_isIn_0 rfl (lv_at hl 0 rfl) ?_
  refine lv_iload_n hx hb dX6_isIn_1 rfl (lv_at hl 1 rfl) ?_
  refine lv_icmp_lt (tgt := 14) hx hb dX6_isIn_2 (by decide) (fun c2 => ?_) (fun c2 => ?_)
  · refine lv_iconst (v := 0) hx hb dX6_isIn_14 (by decide) ?_
    exact o_zretR hx hb hr hlocks dX6_isIn_15 (by first | exact Or.inl rfl | exact Or.inr rfl) (by simp [oRg, bI, ← Int32.not_lt, c2])
  · refine lv_iload_n hx hb dX6_isIn_5 rfl (lv_at hl 0 rfl) ?_
    refine lv_iload_n hx hb dX6_isIn_6 rfl (lv_at hl 2 rfl) ?_
    refine lv_icmp_gt (tgt := 14) hx hb dX6_isIn_7 (by decide) (fun c7 => ?_) (fun c7 => ?_)
    · refine lv_iconst (v := 0) hx hb dX6_isIn_14 (by decide) ?_
      exact o_zretR hx hb hr hlocks dX6_isIn_15 (by first | exact Or.inl rfl | exact Or.inr rfl) (by simp [oRg, bI, ← Int32.not_lt, c2, c7])
    · refine lv_iconst (v := 1) hx hb dX6_isIn_10 (by decide) ?_
      refine lv_goto (tgt := 15) hx hb dX6_isIn_11 (by decide) ?_
      exact o_zretR hx hb hr hlocks dX6_isIn_15 (by first | exact Or.inl rfl | exact Or.inr rfl) (by simp [oRg, bI, ← Int32.not_lt, c2, c7])
set_option maxHeartbeats 4000000 in
set_option maxRecDepth 100000 in
theorem m_X6_isStreet (l : Launch) (G : oG) (α β γ : oT) (nS : Nat) (nO : Nat) (nH : Nat) (hz : qOK α nS nO nH) (x : Int32) : Met l yX6_isStreet wsX6_isStreet ({ frames := 1, cells := 0, slots := 0, locals := 22 } : Room) (va_Pc [.ref (G.2.1 0), .int x] (PW G (mw G (z3 α β γ)))) (oR (some (.int (bI (oIn x nS))))) 0 0 (fun _ => False) := by
  refine o_body (cc := cX6_isStreet) (by decide +kernel) rfl (Nat.le_of_ble_eq_true rfl) ?_
  intro p e s m below meth c ls hx hb hml hr hlocks hown hts hP hK hN hl
  have hown : s.vm.findClass RX6 = some m.cls := hown
  have hl : lv_has ls 2 [(0, .ref (G.2.1 0)), (1, .int x)] := hl
  obtain ⟨hz1, hz2, hz3, hz4, hz5, hz6, hz7, hz8⟩ := id hz
  refine lv_iload_n hx hb dX6_isStreet_0 rfl (lv_at hl 1 rfl) ?_
  refine lv_iconst (v := 0) hx hb dX6_isStreet_1 (by decide) ?_
  refine lv_aload_n hx hb dX6_isStreet_2 rfl (lv_at hl 0 rfl) ?_
  refine va_get (D := G.1) (ci := 8) (v := .ref (ms G 0 0)) (C := RX6) (T := TX6) (N := 6) hx hb hts (fun w9 h9 => List.mem_cons_of_mem _ (List.mem_append_left _ (List.mem_append_right _ (h9)))) hown hK hP (0) (mw_M G (z3 α β γ)) rfl 4 (by decide) (hts (.fieldLink RX6 21 "OrganCensusModel" "s" "LOrganCensusModel$State;") (List.mem_of_getElem? (i := 1) rfl)) (fun _ h9 => h9) rfl dX6_isStreet_3 ?_
  refine va_getN (D := G.1) (ci := 7) (v := .int (α 40 0 1)) (C := RX5) (T := TX5) (N := 21) hx hb hts (fun w9 h9 => List.mem_cons_of_mem _ (List.mem_append_right _ (h9))) hown hK hP (3 + 18 * 0 + (0)) (mv_S G (z3 α β γ) (show 0 < 2 by decide)) rfl 1 (by decide) (va_Nw.use rfl (hN.1 (RX6, 32, RX5, "streets", "I", RX6) (List.mem_of_getElem? (i := 0) rfl))) (fun _ h9 => h9) rfl dX6_isStreet_6 ?_
  refine lv_iconst (v := 1) hx hb dX6_isStreet_9 (by decide) ?_
  refine lv_isub hx hb dX6_isStreet_10 ?_
  refine o_cSi [.int x, .int 0, .int ((α 40 0 1) - 1)] [] ⟨hx, hb, hml, hown, hts⟩ (m_X6_isIn l G (mw G (z3 α β γ)) x 0 ((α 40 0 1) - 1)) (va_cwS 3 hts gX6_isStreet_X6_isIn rfl rfl rfl (by decide +kernel) ⟨Nat.le_of_ble_eq_true rfl, Nat.le_of_ble_eq_true rfl⟩) hK hN hP rfl hl.1 rfl (Nat.le_of_ble_eq_true rfl) dX6_isStreet_11 ⟨Nat.zero_le _, Nat.zero_le _⟩ ?_
  exact o_zretR hx hb hr hlocks dX6_isStreet_14 (by exact bI_01 _) (by rw [hz1, oRg_p x (by omega)])
set_option maxHeartbeats 4000000 in
set_option maxRecDepth 100000 in
theorem m_X6_isOrgan (l : Launch) (G : oG) (α β γ : oT) (nS : Nat) (nO : Nat) (nH : Nat) (hz : qOK α nS nO nH) (x : Int32) : Met l yX6_isOrgan wsX6_isOrgan ({ frames := 1, cells := 0, slots := 0, locals := 22 } : Room) (va_Pc [.ref (G.2.1 0), .int x] (PW G (mw G (z3 α β γ)))) (oR (some (.int (bI (oIn x nO))))) 0 0 (fun _ => False) := by
  refine o_body (cc := cX6_isOrgan) (by decide +kernel) rfl (Nat.le_of_ble_eq_true rfl) ?_
  intro p e s m below meth c ls hx hb hml hr hlocks hown hts hP hK hN hl
  have hown : s.vm.findClass RX6 = some m.cls := hown
  have hl : lv_has ls 2 [(0, .ref (G.2.1 0)), (1, .int x)] := hl
  obtain ⟨hz1, hz2, hz3, hz4, hz5, hz6, hz7, hz8⟩ := id hz
  refine lv_iload_n hx hb dX6_isOrgan_0 rfl (lv_at hl 1 rfl) ?_
  refine lv_iconst (v := 0) hx hb dX6_isOrgan_1 (by decide) ?_
  refine lv_aload_n hx hb dX6_isOrgan_2 rfl (lv_at hl 0 rfl) ?_
  refine va_get (D := G.1) (ci := 8) (v := .ref (ms G 0 0)) (C := RX6) (T := TX6) (N := 6) hx hb hts (fun w9 h9 => List.mem_cons_of_mem _ (List.mem_append_left _ (List.mem_append_right _ (h9)))) hown hK hP (0) (mw_M G (z3 α β γ)) rfl 4 (by decide) (hts (.fieldLink RX6 21 "OrganCensusModel" "s" "LOrganCensusModel$State;") (List.mem_of_getElem? (i := 1) rfl)) (fun _ h9 => h9) rfl dX6_isOrgan_3 ?_
  refine va_getN (D := G.1) (ci := 7) (v := .int (α 40 0 2)) (C := RX5) (T := TX5) (N := 21) hx hb hts (fun w9 h9 => List.mem_cons_of_mem _ (List.mem_append_right _ (h9))) hown hK hP (3 + 18 * 0 + (0)) (mv_S G (z3 α β γ) (show 0 < 2 by decide)) rfl 7 (by decide) (va_Nw.use rfl (hN.1 (RX6, 39, RX5, "organs", "I", RX6) (List.mem_of_getElem? (i := 1) rfl))) (fun _ h9 => h9) rfl dX6_isOrgan_6 ?_
  refine lv_iconst (v := 1) hx hb dX6_isOrgan_9 (by decide) ?_
  refine lv_isub hx hb dX6_isOrgan_10 ?_
  refine o_cSi [.int x, .int 0, .int ((α 40 0 2) - 1)] [] ⟨hx, hb, hml, hown, hts⟩ (m_X6_isIn l G (mw G (z3 α β γ)) x 0 ((α 40 0 2) - 1)) (va_cwS 3 hts gX6_isOrgan_X6_isIn rfl rfl rfl (by decide +kernel) ⟨Nat.le_of_ble_eq_true rfl, Nat.le_of_ble_eq_true rfl⟩) hK hN hP rfl hl.1 rfl (Nat.le_of_ble_eq_true rfl) dX6_isOrgan_11 ⟨Nat.zero_le _, Nat.zero_le _⟩ ?_
  exact o_zretR hx hb hr hlocks dX6_isOrgan_14 (by exact bI_01 _) (by rw [hz3, oRg_p x (by omega)])
set_option maxHeartbeats 4000000 in
set_option maxRecDepth 100000 in
theorem m_X6_isPitch (l : Launch) (G : oG) (α β γ : oT) (nS : Nat) (nO : Nat) (nH : Nat) (hz : qOK α nS nO nH) (x : Int32) (y : Int32) : Met l yX6_isPitch wsX6_isPitch ({ frames := 2, cells := 0, slots := 0, locals := 43 } : Room) (va_Pc [.ref (G.2.1 0), .int x, .int y] (PW G (mw G (z3 α β γ)))) (oR (some (.int (bI (oIn x nS && oIn y (qNp α (oN x))))))) 0 0 (fun _ => False) := by
  refine o_body (cc := cX6_isPitch) (by decide +kernel) rfl (Nat.le_of_ble_eq_true rfl) ?_
  intro p e s m below meth c ls hx hb hml hr hlocks hown hts hP hK hN hl
  have hown : s.vm.findClass RX6 = some m.cls := hown
  have hl : lv_has ls 3 [(0, .ref (G.2.1 0)), (1, .int x), (2, .int y)] := hl
  obtain ⟨hz1, hz2, hz3, hz4, hz5, hz6, hz7, hz8⟩ := id hz
  refine lv_aload_n hx hb dX6_isPitch_0 rfl (lv_at hl 0 rfl) ?_
  refine lv_iload_n hx hb dX6_isPitch_1 rfl (lv_at hl 1 rfl) ?_
  refine o_cVi (q0 := 0) (ci := 8) [.int x] [] ⟨hx, hb, hml, hown, hts⟩ (m_X6_isStreet l G α β γ nS nO nH hz x) (cwV 1 hts gX6_isPitch_X6_isStreet rfl rfl rfl (by decide +kernel) ⟨Nat.le_of_ble_eq_true rfl, Nat.le_of_ble_eq_true rfl⟩) hK hN hP rfl rfl (mw_M G (z3 α β γ)) rfl hl.1 rfl (Nat.le_of_ble_eq_true rfl) dX6_isPitch_2 ⟨Nat.zero_le _, Nat.zero_le _⟩ ?_
  refine lv_if_eq (tgt := 31) hx hb dX6_isPitch_5 (by decide) (fun c5 => ?_) (fun c5 => ?_)
  · have c5 := bI_eq.mp c5
    refine lv_iconst (v := 0) hx hb dX6_isPitch_31 (by decide) ?_
    exact o_zretR hx hb hr hlocks dX6_isPitch_32 (by first | exact Or.inl rfl | exact Or.inr rfl) (by simp [bI, c5])
  · have c5 := bI_ne.mp c5
    have n5 := oIn_lt (by omega) c5
    refine lv_iload_n hx hb dX6_isPitch_8 rfl (lv_at hl 2 rfl) ?_
    refine lv_iconst (v := 0) hx hb dX6_isPitch_9 (by decide) ?_
    refine lv_aload_n hx hb dX6_isPitch_10 rfl (lv_at hl 0 rfl) ?_
    refine va_get (D := G.1) (ci := 8) (v := .ref (ms G 0 0)) (C := RX6) (T := TX6) (N := 6) hx hb hts (fun w9 h9 => List.mem_cons_of_mem _ (List.mem_append_left _ (List.mem_append_right _ (h9)))) hown hK hP (0) (mw_M G (z3 α β γ)) rfl 4 (by decide) (hts (.fieldLink RX6 21 "OrganCensusModel" "s" "LOrganCensusModel$State;") (List.mem_of_getElem? (i := 1) rfl)) (fun _ h9 => h9) rfl dX6_isPitch_11 ?_
    refine va_getN (D := G.1) (ci := 7) (v := .ref (ms G 0 1)) (C := RX5) (T := TX5) (N := 21) hx hb hts (fun w9 h9 => List.mem_cons_of_mem _ (List.mem_append_right _ (h9))) hown hK hP (3 + 18 * 0 + (0)) (mv_S G (z3 α β γ) (show 0 < 2 by decide)) rfl 2 (by decide) (va_Nw.use rfl (hN.1 (RX6, 46, RX5, "pitches", "[I", RX6) (List.mem_of_getElem? (i := 2) rfl))) (fun _ h9 => h9) rfl dX6_isPitch_14 ?_
    refine lv_iload_n hx hb dX6_isPitch_17 rfl (lv_at hl 1 rfl) ?_
    refine o_iald (k := oN x) hx hb hK hP (3 + 18 * 0 + (1)) 0 (mv_A1 G (z3 α β γ) (show 0 < 2 by decide)) rfl (oIn_x c5) (by omega) (by decide) dX6_isPitch_18 ?_
    refine lv_iconst (v := 1) hx hb dX6_isPitch_19 (by decide) ?_
    refine lv_isub hx hb dX6_isPitch_20 ?_
    refine o_cSi [.int y, .int 0, .int ((α 1 0 (oN x)) - 1)] [] ⟨hx, hb, hml, hown, hts⟩ (m_X6_isIn l G (mw G (z3 α β γ)) y 0 ((α 1 0 (oN x)) - 1)) (va_cwS 3 hts gX6_isPitch_X6_isIn rfl rfl rfl (by decide +kernel) ⟨Nat.le_of_ble_eq_true rfl, Nat.le_of_ble_eq_true rfl⟩) hK hN hP rfl hl.1 rfl (Nat.le_of_ble_eq_true rfl) dX6_isPitch_21 ⟨Nat.zero_le _, Nat.zero_le _⟩ ?_
    rw [show oRg y 0 (α 1 0 (oN x) - 1) = oIn y (qNp α (oN x)) from by rw [(hz7 (oN x) (by omega)).1]; exact oRg_p y (by have := (hz7 (oN x) (by omega)).2; omega)]
    refine lv_if_eq (tgt := 31) hx hb dX6_isPitch_24 (by decide) (fun c24 => ?_) (fun c24 => ?_)
    · have c24 := bI_eq.mp c24
      refine lv_iconst (v := 0) hx hb dX6_isPitch_31 (by decide) ?_
      exact o_zretR hx hb hr hlocks dX6_isPitch_32 (by first | exact Or.inl rfl | exact Or.inr rfl) (by simp [bI, c5, c24])
    · have c24 := bI_ne.mp c24
      have hp24 := (hz.2.2.2.2.2.2.1 (oN x) (by omega)).2
      have n24 := oIn_lt (by omega) c24
      refine lv_iconst (v := 1) hx hb dX6_isPitch_27 (by decide) ?_
      refine lv_goto (tgt := 32) hx hb dX6_isPitch_28 (by decide) ?_
      exact o_zretR hx hb hr hlocks dX6_isPitch_32 (by first | exact Or.inl rfl | exact Or.inr rfl) (by simp [bI, c5, c24])
set_option maxHeartbeats 4000000 in
set_option maxRecDepth 100000 in
theorem m_X6_thrown (l : Launch) (G : oG) (α β γ : oT) : Met l yX6_thrown wsX6_thrown ({ frames := 0, cells := 0, slots := 0, locals := 0 } : Room) (va_Pc [.ref (G.2.1 0)] (PW G (mw G (z3 α β γ)))) (oR (some (.int (γ 41 0 0)))) 0 0 (fun _ => False) := by
  refine o_body (cc := cX6_thrown) (by decide +kernel) rfl (Nat.le_of_ble_eq_true rfl) ?_
  intro p e s m below meth c ls hx hb hml hr hlocks hown hts hP hK hN hl
  have hown : s.vm.findClass RX6 = some m.cls := hown
  have hl : lv_has ls 1 [(0, .ref (G.2.1 0))] := hl
  refine lv_aload_n hx hb dX6_thrown_0 rfl (lv_at hl 0 rfl) ?_
  refine va_get (D := G.1) (ci := 8) (v := .int (γ 41 0 0)) (C := RX6) (T := TX6) (N := 6) hx hb hts (fun w9 h9 => List.mem_cons_of_mem _ (List.mem_append_right _ (h9))) hown hK hP (0) (mw_M G (z3 α β γ)) rfl 0 (by decide) (hts (.fieldLink RX6 28 "OrganCensusModel" "thrown" "I") (List.mem_of_getElem? (i := 1) rfl)) (fun _ h9 => h9) rfl dX6_thrown_1 ?_
  exact o_iretR hx hb hr hlocks dX6_thrown_4 (rfl)
set_option maxHeartbeats 4000000 in
set_option maxRecDepth 100000 in
theorem m_X6_no (l : Launch) (G : oG) (hI : wl_I G.2.1 39) (α β γ : oT) (x : Int32) : Met l yX6_no wsX6_no ({ frames := 0, cells := 0, slots := 0, locals := 0 } : Room) (va_Pc [.ref (G.2.1 0), .int x] (PW G (mw G (z3 α β γ)))) (oQ (some (.int (0))) (fun H9 => va_P G.1 vwCl (mw G (z3 α β (su γ 41 0 0 x))) H9) (mA G)) 0 0 (mA G) := by
  refine o_body (cc := cX6_no) (by decide +kernel) rfl (Nat.le_of_ble_eq_true rfl) ?_
  intro p e s m below meth c ls hx hb hml hr hlocks hown hts hP hK hN hl
  have hown : s.vm.findClass RX6 = some m.cls := hown
  have hl : lv_has ls 2 [(0, .ref (G.2.1 0)), (1, .int x)] := hl
  have hS : va_S (mA G) s.heap s.heap [] := va_S.rf
  refine lv_aload_n hx hb dX6_no_0 rfl (lv_at hl 0 rfl) ?_
  refine lv_iload_n hx hb dX6_no_1 rfl (lv_at hl 1 rfl) ?_
  refine va_put (D := G.1) (ci := 8) (v := .int x) (ty := .int) (C := RX6) (T := TX6) (N := 6) hx hb hts (fun w9 h9 => List.mem_cons_of_mem _ (List.mem_append_right _ (h9))) tyX6 tyX6_ok nmX6 hown hK hP (mw_D G _ hI) hS (0) (mw_M G (z3 α β γ)) rfl 0 (by decide) (hts (.fieldLink RX6 28 "OrganCensusModel" "thrown" "I") (List.mem_of_getElem? (i := 1) rfl)) (fun _ h9 => h9) rfl (by decide +kernel) rfl rfl (Nat.le_of_ble_eq_true rfl) dX6_no_2 (fun H locs hP hD hS => ?_)
  have hP : va_P G.1 vwCl (mw G (z3 α β (su γ 41 0 0 x))) H := by rw [← (mw_zP (a := α) (b := β) (c := γ) (τ' := su γ 41 0 0 x) (mw_uM0 G (z3 α β γ) x))]; exact hP
  clear hD
  refine lv_iconst (v := 0) hx hb dX6_no_5 (by decide) ?_
  exact o_iretM hx hb hr hlocks hS dX6_no_6 (hP) (rfl)
set_option maxHeartbeats 4000000 in
set_option maxRecDepth 100000 in
theorem m_X6_build (l : Launch) (G : oG) (hI : wl_I G.2.1 39) (α β γ : oT) (nS : Nat) (nO : Nat) (nH : Nat) (hz : qOK α nS nO nH) (x : Int32) : Met l yX6_build wsX6_build ({ frames := 1, cells := 0, slots := 0, locals := 22 } : Room) (va_Pc [.ref (G.2.1 0), .int x] (PW G (mw G (z3 α β γ)))) (oQ (some (.int (if cBuild nS x = 0 then nI nS else 0))) (fun H9 => va_P G.1 vwCl (mw G (z3 (if cBuild nS x = 0 then mBuild α nS x else α) β (mT γ (cBuild nS x)))) H9) (mA G)) 0 0 (mA G) := by
  refine o_body (cc := cX6_build) (by decide +kernel) rfl (Nat.le_of_ble_eq_true rfl) ?_
  intro p e s m below meth c ls hx hb hml hr hlocks hown hts hP hK hN hl
  have hown : s.vm.findClass RX6 = some m.cls := hown
  have hl : lv_has ls 3 [(0, .ref (G.2.1 0)), (1, .int x)] := hl
  have hS : va_S (mA G) s.heap s.heap [] := va_S.rf
  obtain ⟨hz1, hz2, hz3, hz4, hz5, hz6, hz7, hz8⟩ := id hz
  refine lv_aload_n hx hb dX6_build_0 rfl (lv_at hl 0 rfl) ?_
  refine lv_iconst (v := 0) hx hb dX6_build_1 (by decide) ?_
  refine va_put (D := G.1) (ci := 8) (v := .int 0) (ty := .int) (C := RX6) (T := TX6) (N := 6) hx hb hts (fun w9 h9 => List.mem_cons_of_mem _ (List.mem_append_left _ (List.mem_append_right _ (h9)))) tyX6 tyX6_ok nmX6 hown hK hP (mw_D G _ hI) hS (0) (mw_M G (z3 α β γ)) rfl 0 (by decide) (hts (.fieldLink RX6 28 "OrganCensusModel" "thrown" "I") (List.mem_of_getElem? (i := 1) rfl)) (fun _ h9 => h9) rfl (by decide +kernel) rfl rfl (Nat.le_of_ble_eq_true rfl) dX6_build_2 (fun H locs hP hD hS => ?_)
  have hP : va_P G.1 vwCl (mw G (z3 α β (su γ 41 0 0 0))) H := by rw [← (mw_zP (a := α) (b := β) (c := γ) (τ' := su γ 41 0 0 0) (mw_uM0 G (z3 α β γ) 0))]; exact hP
  clear hD
  refine lv_iload_n hx hb dX6_build_5 rfl (lv_at hl 1 rfl) ?_
  refine lv_iconst (v := 3) hx hb dX6_build_6 (by decide) ?_
  refine lv_bipush (v := 20) hx hb dX6_build_7 (by decide) ?_
  refine o_cSi [.int x, .int 3, .int 20] [] ⟨hx, hb, hml, hown, hts⟩ (m_X6_isIn l G (mw G (z3 α β (su γ 41 0 0 0))) x 3 20) (va_cwS 3 hts gX6_build_X6_isIn rfl rfl rfl (by decide +kernel) ⟨Nat.le_of_ble_eq_true rfl, Nat.le_of_ble_eq_true rfl⟩) hK hN hP rfl hl.1 rfl (Nat.le_of_ble_eq_true rfl) dX6_build_9 ⟨Nat.zero_le _, Nat.zero_le _⟩ ?_
  refine lv_if_ne (tgt := 21) hx hb dX6_build_12 (by decide) (fun c12 => ?_) (fun c12 => ?_)
  · have c12 := bI_ne.mp c12
    refine lv_aload_n hx hb dX6_build_21 rfl (lv_at hl 0 rfl) ?_
    refine va_get (D := G.1) (ci := 8) (v := .ref (ms G 0 0)) (C := RX6) (T := TX6) (N := 6) hx hb hts (fun w9 h9 => List.mem_cons_of_mem _ (List.mem_append_left _ (List.mem_append_right _ (h9)))) hown hK hP (0) (mw_M G (z3 α β (su γ 41 0 0 0))) rfl 4 (by decide) (hts (.fieldLink RX6 21 "OrganCensusModel" "s" "LOrganCensusModel$State;") (List.mem_of_getElem? (i := 2) rfl)) (fun _ h9 => h9) rfl dX6_build_22 ?_
    refine va_getN (D := G.1) (ci := 7) (v := .int (α 40 0 1)) (C := RX5) (T := TX5) (N := 21) hx hb hts (fun w9 h9 => List.mem_cons_of_mem _ (List.mem_append_right _ (h9))) hown hK hP (3 + 18 * 0 + (0)) (mv_S G (z3 α β (su γ 41 0 0 0)) (show 0 < 2 by decide)) rfl 1 (by decide) (va_Nw.use rfl (hN.1 (RX6, 32, RX5, "streets", "I", RX6) (List.mem_of_getElem? (i := 0) rfl))) (fun _ h9 => h9) rfl dX6_build_25 ?_
    refine lv_bipush (v := 6) hx hb dX6_build_28 (by decide) ?_
    refine lv_icmp_ne (tgt := 39) hx hb dX6_build_30 (by decide) (fun c30 => ?_) (fun c30 => ?_)
    · have n30 := (mt (o_neq (a := nS) (b := 6) hz.1 (by decide) (by omega) (by omega)).mpr) c30
      refine lv_aload_n hx hb dX6_build_39 rfl (lv_at hl 0 rfl) ?_
      refine va_get (D := G.1) (ci := 8) (v := .ref (ms G 0 0)) (C := RX6) (T := TX6) (N := 6) hx hb hts (fun w9 h9 => List.mem_cons_of_mem _ (List.mem_append_left _ (List.mem_append_right _ (h9)))) hown hK hP (0) (mw_M G (z3 α β (su γ 41 0 0 0))) rfl 4 (by decide) (hts (.fieldLink RX6 21 "OrganCensusModel" "s" "LOrganCensusModel$State;") (List.mem_of_getElem? (i := 2) rfl)) (fun _ h9 => h9) rfl dX6_build_40 ?_
      refine va_getN (D := G.1) (ci := 7) (v := .ref (ms G 0 1)) (C := RX5) (T := TX5) (N := 21) hx hb hts (fun w9 h9 => List.mem_cons_of_mem _ (List.mem_append_right _ (h9))) hown hK hP (3 + 18 * 0 + (0)) (mv_S G (z3 α β (su γ 41 0 0 0)) (show 0 < 2 by decide)) rfl 2 (by decide) (va_Nw.use rfl (hN.1 (RX6, 46, RX5, "pitches", "[I", RX6) (List.mem_of_getElem? (i := 2) rfl))) (fun _ h9 => h9) rfl dX6_build_43 ?_
      refine lv_aload_n hx hb dX6_build_46 rfl (lv_at hl 0 rfl) ?_
      refine va_get (D := G.1) (ci := 8) (v := .ref (ms G 0 0)) (C := RX6) (T := TX6) (N := 6) hx hb hts (fun w9 h9 => List.mem_cons_of_mem _ (List.mem_append_left _ (List.mem_append_right _ (h9)))) hown hK hP (0) (mw_M G (z3 α β (su γ 41 0 0 0))) rfl 4 (by decide) (hts (.fieldLink RX6 21 "OrganCensusModel" "s" "LOrganCensusModel$State;") (List.mem_of_getElem? (i := 2) rfl)) (fun _ h9 => h9) rfl dX6_build_47 ?_
      refine va_getN (D := G.1) (ci := 7) (v := .int (α 40 0 1)) (C := RX5) (T := TX5) (N := 21) hx hb hts (fun w9 h9 => List.mem_cons_of_mem _ (List.mem_append_right _ (h9))) hown hK hP (3 + 18 * 0 + (0)) (mv_S G (z3 α β (su γ 41 0 0 0)) (show 0 < 2 by decide)) rfl 1 (by decide) (va_Nw.use rfl (hN.1 (RX6, 32, RX5, "streets", "I", RX6) (List.mem_of_getElem? (i := 0) rfl))) (fun _ h9 => h9) rfl dX6_build_50 ?_
      refine lv_iload_n hx hb dX6_build_53 rfl (lv_at hl 1 rfl) ?_
      refine o_iast (k := nS) hx hb hK hP (mw_D G _ hI) hS (3 + 18 * 0 + (1)) 0 (mv_A1 G (z3 α β (su γ 41 0 0 0)) (show 0 < 2 by decide)) rfl hz.1 (by omega) (by decide) dX6_build_54 (fun H locs hP hD hS => ?_)
      have hP : va_P G.1 vwCl (mw G (z3 (su α 1 0 nS x) β (su γ 41 0 0 0))) H := by rw [← (mu_z0 (a := α) (b := β) (c := (su γ 41 0 0 0)) (τ' := su α 1 0 nS x) (mvu_A1 G (z3 α β (su γ 41 0 0 0)) (show 0 < 2 by decide) nS x))]; exact hP
      clear hD
      refine lv_iconst (v := 0) hx hb dX6_build_55 (by decide) ?_
      refine lv_istore_n (lv' := [(2, .int 0), (0, .ref (G.2.1 0)), (1, .int x)]) hx hb dX6_build_56 rfl hl (by decide) rfl (fun ls hl => ?_)
      have lp57 : ∀ (d57 k : Nat), k + d57 = 6 → ∀ x57_2 : Int32, x57_2 = (nI k) → ∀ (τ57 : oZ), τ57 = (z3 (qT5 (su α 1 0 nS x) nS k) β (su γ 41 0 0 0)) → ∀ (H : Heap) (locs : List Loc), va_P G.1 vwCl (mw G τ57) H → va_S (mA G) s.heap H locs → ∀ ls : Array Slot, lv_has ls 3 [(0, .ref (G.2.1 0)), (1, .int x), (2, .int x57_2)] → W p l e ({ frames := 1, cells := 0, slots := 0, locals := 22 } : Room) s m ([.ref (G.2.1 0), .int x] : List Value).toArray below meth c H locs 0 0 (MQ below (oQ (some (.int (if cBuild nS x = 0 then nI nS else 0))) (fun H9 => va_P G.1 vwCl (mw G (z3 (if cBuild nS x = 0 then mBuild α nS x else α) β (mT γ (cBuild nS x)))) H9) (mA G)) ([.ref (G.2.1 0), .int x] : List Value).toArray s 0 0 (mA G)) (F0 m 57 ls []) := by
        intro d57
        induction d57 with
        | zero =>
          intro k hk57 x57_2 e57_2 τ57 eτ57 H locs hP hS ls hl
          subst e57_2
          subst eτ57
          have hk57 : k = 6 := by omega
          refine lv_iload_n hx hb dX6_build_57 rfl (lv_at hl 2 rfl) ?_
          refine lv_bipush (v := 6) hx hb dX6_build_58 (by decide) ?_
          refine lv_icmp_ge (tgt := 90) hx hb dX6_build_60 (by decide) (fun c60 => ?_) (fun c60 => ?_)
          · have n60 := (o_nle (a := 6) (b := k) (by decide) rfl (by omega) (by omega)).mp c60
            refine lv_aload_n hx hb dX6_build_90 rfl (lv_at hl 0 rfl) ?_
            refine va_get (D := G.1) (ci := 8) (v := .ref (ms G 0 0)) (C := RX6) (T := TX6) (N := 6) hx hb hts (fun w9 h9 => List.mem_cons_of_mem _ (List.mem_append_left _ (List.mem_append_right _ (h9)))) hown hK hP (0) (mw_M G (z3 (qT5 (su α 1 0 nS x) nS k) β (su γ 41 0 0 0))) rfl 4 (by decide) (hts (.fieldLink RX6 21 "OrganCensusModel" "s" "LOrganCensusModel$State;") (List.mem_of_getElem? (i := 2) rfl)) (fun _ h9 => h9) rfl dX6_build_91 ?_
            refine lv_dup hx hb dX6_build_94 rfl ?_
            refine va_getN (D := G.1) (ci := 7) (v := .int ((qT5 (su α 1 0 nS x) nS k) 40 0 1)) (C := RX5) (T := TX5) (N := 21) hx hb hts (fun w9 h9 => List.mem_cons_of_mem _ (List.mem_append_right _ (h9))) hown hK hP (3 + 18 * 0 + (0)) (mv_S G (z3 (qT5 (su α 1 0 nS x) nS k) β (su γ 41 0 0 0)) (show 0 < 2 by decide)) rfl 1 (by decide) (va_Nw.use rfl (hN.1 (RX6, 32, RX5, "streets", "I", RX6) (List.mem_of_getElem? (i := 0) rfl))) (fun _ h9 => h9) rfl dX6_build_95 ?_
            refine lv_iconst (v := 1) hx hb dX6_build_98 (by decide) ?_
            refine lv_iadd hx hb dX6_build_99 ?_
            rw [show (qT5 (su α 1 0 nS x) nS k) 40 0 1 + 1 = nI (nS + 1) from by rw [qT5_k _ _ _ (by decide), su_k _ _ _ _ (by decide), hz1, nI_1]]
            refine va_putN (D := G.1) (ci := 7) (v := .int (nI (nS + 1))) (ty := .int) (C := RX5) (T := TX5) (N := 21) hx hb hts (fun w9 h9 => List.mem_cons_of_mem _ (List.mem_append_right _ (h9))) tyX5 tyX5_ok nmX5 hown hK hP (mw_D G _ hI) hS (3 + 18 * 0 + (0)) (mv_S G (z3 (qT5 (su α 1 0 nS x) nS k) β (su γ 41 0 0 0)) (show 0 < 2 by decide)) rfl 1 (by decide) (va_Nw.use rfl (hN.1 (RX6, 32, RX5, "streets", "I", RX6) (List.mem_of_getElem? (i := 0) rfl))) (fun _ h9 => h9) rfl (by decide +kernel) rfl rfl (Nat.le_of_ble_eq_true rfl) dX6_build_100 (fun H locs hP hD hS => ?_)
            have hP : va_P G.1 vwCl (mw G (z3 (su (qT5 (su α 1 0 nS x) nS k) 40 0 1 (nI (nS + 1))) β (su γ 41 0 0 0))) H := by rw [← (mu_z0 (a := (qT5 (su α 1 0 nS x) nS k)) (b := β) (c := (su γ 41 0 0 0)) (τ' := su (qT5 (su α 1 0 nS x) nS k) 40 0 1 (nI (nS + 1))) (mvu_S1 G (z3 (qT5 (su α 1 0 nS x) nS k) β (su γ 41 0 0 0)) (show 0 < 2 by decide) (nI (nS + 1))))]; exact hP
            clear hD
            refine lv_aload_n hx hb dX6_build_103 rfl (lv_at hl 0 rfl) ?_
            refine va_get (D := G.1) (ci := 8) (v := .ref (ms G 0 0)) (C := RX6) (T := TX6) (N := 6) hx hb hts (fun w9 h9 => List.mem_cons_of_mem _ (List.mem_append_left _ (List.mem_append_right _ (h9)))) hown hK hP (0) (mw_M G (z3 (su (qT5 (su α 1 0 nS x) nS k) 40 0 1 (nI (nS + 1))) β (su γ 41 0 0 0))) rfl 4 (by decide) (hts (.fieldLink RX6 21 "OrganCensusModel" "s" "LOrganCensusModel$State;") (List.mem_of_getElem? (i := 2) rfl)) (fun _ h9 => h9) rfl dX6_build_104 ?_
            refine va_getN (D := G.1) (ci := 7) (v := .int ((su (qT5 (su α 1 0 nS x) nS k) 40 0 1 (nI (nS + 1))) 40 0 1)) (C := RX5) (T := TX5) (N := 21) hx hb hts (fun w9 h9 => List.mem_cons_of_mem _ (List.mem_append_right _ (h9))) hown hK hP (3 + 18 * 0 + (0)) (mv_S G (z3 (su (qT5 (su α 1 0 nS x) nS k) 40 0 1 (nI (nS + 1))) β (su γ 41 0 0 0)) (show 0 < 2 by decide)) rfl 1 (by decide) (va_Nw.use rfl (hN.1 (RX6, 32, RX5, "streets", "I", RX6) (List.mem_of_getElem? (i := 0) rfl))) (fun _ h9 => h9) rfl dX6_build_107 ?_
            refine lv_iconst (v := 1) hx hb dX6_build_110 (by decide) ?_
            refine lv_isub hx hb dX6_build_111 ?_
            exact o_iretM hx hb hr hlocks hS dX6_build_112 (by first | (subst hk57; have hP9 := hP; simp (decide := true) only [cBuild, mT, c12, c30, n30, c60, n60, Bool.true_and, Bool.and_true, Bool.false_and, Bool.and_false, Bool.false_eq_true, if_true, if_false, reduceIte, not_true_eq_false, not_false_eq_true, and_true, and_false, true_and, false_and, Nat.reduceEqDiff, reduceCtorEq]; exact hP9) | (have hP9 := hP; simp (decide := true) only [cBuild, mT, c12, c30, n30, c60, n60, Bool.true_and, Bool.and_true, Bool.false_and, Bool.and_false, Bool.false_eq_true, if_true, if_false, reduceIte, not_true_eq_false, not_false_eq_true, and_true, and_false, true_and, false_and, Nat.reduceEqDiff, reduceCtorEq]; rw [su_su] at hP9; exact hP9)) (by first | (subst hk57; rw [su_s, nI_pred]; simp (decide := true) only [cBuild, c12, c30, n30, c60, n60, Bool.true_and, Bool.and_true, Bool.false_and, Bool.and_false, Bool.false_eq_true, if_true, if_false, reduceIte, not_true_eq_false, not_false_eq_true, and_true, and_false, true_and, false_and, Nat.reduceEqDiff, reduceCtorEq]) | (simp (decide := true) only [cBuild, c12, c30, n30, c60, n60, Bool.true_and, Bool.and_true, Bool.false_and, Bool.and_false, Bool.false_eq_true, if_true, if_false, reduceIte, not_true_eq_false, not_false_eq_true, and_true, and_false, true_and, false_and, Nat.reduceEqDiff, reduceCtorEq]))
          · have n60 := (mt (o_nle (a := 6) (b := k) (by decide) rfl (by omega) (by omega)).mpr) c60; omega
        | succ d57 ih57 =>
          intro k hk57 x57_2 e57_2 τ57 eτ57 H locs hP hS ls hl
          subst e57_2
          subst eτ57
          have hj57 : k < 6 := by omega
          refine lv_iload_n hx hb dX6_build_57 rfl (lv_at hl 2 rfl) ?_
          refine lv_bipush (v := 6) hx hb dX6_build_58 (by decide) ?_
          refine lv_icmp_ge (tgt := 90) hx hb dX6_build_60 (by decide) (fun c60 => ?_) (fun c60 => ?_)
          · have n60 := (o_nle (a := 6) (b := k) (by decide) rfl (by omega) (by omega)).mp c60; omega
          · have n60 := (mt (o_nle (a := 6) (b := k) (by decide) rfl (by omega) (by omega)).mpr) c60
            refine lv_aload_n hx hb dX6_build_63 rfl (lv_at hl 0 rfl) ?_
            refine va_get (D := G.1) (ci := 8) (v := .ref (ms G 0 0)) (C := RX6) (T := TX6) (N := 6) hx hb hts (fun w9 h9 => List.mem_cons_of_mem _ (List.mem_append_left _ (List.mem_append_right _ (h9)))) hown hK hP (0) (mw_M G (z3 (qT5 (su α 1 0 nS x) nS k) β (su γ 41 0 0 0))) rfl 4 (by decide) (hts (.fieldLink RX6 21 "OrganCensusModel" "s" "LOrganCensusModel$State;") (List.mem_of_getElem? (i := 2) rfl)) (fun _ h9 => h9) rfl dX6_build_64 ?_
            refine va_getN (D := G.1) (ci := 7) (v := .ref (ms G 0 2)) (C := RX5) (T := TX5) (N := 21) hx hb hts (fun w9 h9 => List.mem_cons_of_mem _ (List.mem_append_right _ (h9))) hown hK hP (3 + 18 * 0 + (0)) (mv_S G (z3 (qT5 (su α 1 0 nS x) nS k) β (su γ 41 0 0 0)) (show 0 < 2 by decide)) rfl 3 (by decide) (va_Nw.use rfl (hN.1 (RX6, 53, RX5, "taste", "[I", RX6) (List.mem_of_getElem? (i := 3) rfl))) (fun _ h9 => h9) rfl dX6_build_67 ?_
            refine lv_bipush (v := 6) hx hb dX6_build_70 (by decide) ?_
            refine lv_aload_n hx hb dX6_build_72 rfl (lv_at hl 0 rfl) ?_
            refine va_get (D := G.1) (ci := 8) (v := .ref (ms G 0 0)) (C := RX6) (T := TX6) (N := 6) hx hb hts (fun w9 h9 => List.mem_cons_of_mem _ (List.mem_append_left _ (List.mem_append_right _ (h9)))) hown hK hP (0) (mw_M G (z3 (qT5 (su α 1 0 nS x) nS k) β (su γ 41 0 0 0))) rfl 4 (by decide) (hts (.fieldLink RX6 21 "OrganCensusModel" "s" "LOrganCensusModel$State;") (List.mem_of_getElem? (i := 2) rfl)) (fun _ h9 => h9) rfl dX6_build_73 ?_
            refine va_getN (D := G.1) (ci := 7) (v := .int ((qT5 (su α 1 0 nS x) nS k) 40 0 1)) (C := RX5) (T := TX5) (N := 21) hx hb hts (fun w9 h9 => List.mem_cons_of_mem _ (List.mem_append_right _ (h9))) hown hK hP (3 + 18 * 0 + (0)) (mv_S G (z3 (qT5 (su α 1 0 nS x) nS k) β (su γ 41 0 0 0)) (show 0 < 2 by decide)) rfl 1 (by decide) (va_Nw.use rfl (hN.1 (RX6, 32, RX5, "streets", "I", RX6) (List.mem_of_getElem? (i := 0) rfl))) (fun _ h9 => h9) rfl dX6_build_76 ?_
            refine lv_imul hx hb dX6_build_79 ?_
            refine lv_iload_n hx hb dX6_build_80 rfl (lv_at hl 2 rfl) ?_
            refine lv_iadd hx hb dX6_build_81 ?_
            refine lv_iconst (v := 5) hx hb dX6_build_82 (by decide) ?_
            refine o_iast (k := (6 * nS) + k) hx hb hK hP (mw_D G _ hI) hS (3 + 18 * 0 + (2)) 0 (mv_A2 G (z3 (qT5 (su α 1 0 nS x) nS k) β (su γ 41 0 0 0)) (show 0 < 2 by decide)) rfl (o_nadd (o_nmul (by decide) (by rw [qT5_k _ _ _ (by decide), su_k _ _ _ _ (by decide)]; exact hz1)) rfl) (by omega) (by decide) dX6_build_83 (fun H locs hP hD hS => ?_)
            have hP : va_P G.1 vwCl (mw G (z3 (su (qT5 (su α 1 0 nS x) nS k) 2 0 ((6 * nS) + k) 5) β (su γ 41 0 0 0))) H := by rw [← (mu_z0 (a := (qT5 (su α 1 0 nS x) nS k)) (b := β) (c := (su γ 41 0 0 0)) (τ' := su (qT5 (su α 1 0 nS x) nS k) 2 0 ((6 * nS) + k) 5) (mvu_A2 G (z3 (qT5 (su α 1 0 nS x) nS k) β (su γ 41 0 0 0)) (show 0 < 2 by decide) ((6 * nS) + k) 5))]; exact hP
            clear hD
            refine lv_iinc (v := nI (k + 1)) (lv' := [(2, .int (nI (k + 1))), (0, .ref (G.2.1 0)), (1, .int x)]) hx hb dX6_build_84 hl (k := 2) rfl (nI_1 k) (by decide) rfl (fun ls hl => ?_)
            refine lv_goto (tgt := 57) hx hb dX6_build_87 (by decide) ?_
            exact ih57 (k + 1) (by omega) _ (rfl) _ (rfl) _ _ hP hS ls (lv_sub hl [1, 2, 0] rfl)
      exact lp57 (6) 0 (by omega) _ (rfl) _ (rfl) _ _ hP hS ls (lv_sub hl [1, 2, 0] rfl)
    · have n30 := (o_neq (a := nS) (b := 6) hz.1 (by decide) (by omega) (by omega)).mp c30
      refine lv_aload_n hx hb dX6_build_33 rfl (lv_at hl 0 rfl) ?_
      refine lv_iconst (v := 2) hx hb dX6_build_34 (by decide) ?_
      refine o_cVmi (q0 := 0) (ci := 8) [.int 2] [] ⟨hx, hb, hml, hown, hts⟩ (m_X6_no l G hI α β (su γ 41 0 0 0) 2) (cwV 1 hts gX6_build_X6_no rfl rfl rfl (by decide +kernel) ⟨Nat.le_of_ble_eq_true rfl, Nat.le_of_ble_eq_true rfl⟩) hK hN hP hS rfl rfl (mw_M G (z3 α β (su γ 41 0 0 0))) rfl hl.1 rfl (Nat.le_of_ble_eq_true rfl) dX6_build_35 ⟨Nat.zero_le _, Nat.zero_le _⟩ (fun H locs hP hS => ?_)
      exact o_iretM hx hb hr hlocks hS dX6_build_38 (by first | (subst hk57; have hP9 := hP; simp (decide := true) only [cBuild, mT, c12, c30, n30, Bool.true_and, Bool.and_true, Bool.false_and, Bool.and_false, Bool.false_eq_true, if_true, if_false, reduceIte, not_true_eq_false, not_false_eq_true, and_true, and_false, true_and, false_and, Nat.reduceEqDiff, reduceCtorEq]; exact hP9) | (have hP9 := hP; simp (decide := true) only [cBuild, mT, c12, c30, n30, Bool.true_and, Bool.and_true, Bool.false_and, Bool.and_false, Bool.false_eq_true, if_true, if_false, reduceIte, not_true_eq_false, not_false_eq_true, and_true, and_false, true_and, false_and, Nat.reduceEqDiff, reduceCtorEq]; rw [su_su] at hP9; exact hP9)) (by first | (subst hk57; rw [su_s, nI_pred]; simp (decide := true) only [cBuild, c12, c30, n30, Bool.true_and, Bool.and_true, Bool.false_and, Bool.and_false, Bool.false_eq_true, if_true, if_false, reduceIte, not_true_eq_false, not_false_eq_true, and_true, and_false, true_and, false_and, Nat.reduceEqDiff, reduceCtorEq]) | (simp (decide := true) only [cBuild, c12, c30, n30, Bool.true_and, Bool.and_true, Bool.false_and, Bool.and_false, Bool.false_eq_true, if_true, if_false, reduceIte, not_true_eq_false, not_false_eq_true, and_true, and_false, true_and, false_and, Nat.reduceEqDiff, reduceCtorEq]))
  · have c12 := bI_eq.mp c12
    refine lv_aload_n hx hb dX6_build_15 rfl (lv_at hl 0 rfl) ?_
    refine lv_iconst (v := 1) hx hb dX6_build_16 (by decide) ?_
    refine o_cVmi (q0 := 0) (ci := 8) [.int 1] [] ⟨hx, hb, hml, hown, hts⟩ (m_X6_no l G hI α β (su γ 41 0 0 0) 1) (cwV 1 hts gX6_build_X6_no rfl rfl rfl (by decide +kernel) ⟨Nat.le_of_ble_eq_true rfl, Nat.le_of_ble_eq_true rfl⟩) hK hN hP hS rfl rfl (mw_M G (z3 α β (su γ 41 0 0 0))) rfl hl.1 rfl (Nat.le_of_ble_eq_true rfl) dX6_build_17 ⟨Nat.zero_le _, Nat.zero_le _⟩ (fun H locs hP hS => ?_)
    exact o_iretM hx hb hr hlocks hS dX6_build_20 (by first | (subst hk57; have hP9 := hP; simp (decide := true) only [cBuild, mT, c12, Bool.true_and, Bool.and_true, Bool.false_and, Bool.and_false, Bool.false_eq_true, if_true, if_false, reduceIte, not_true_eq_false, not_false_eq_true, and_true, and_false, true_and, false_and, Nat.reduceEqDiff, reduceCtorEq]; exact hP9) | (have hP9 := hP; simp (decide := true) only [cBuild, mT, c12, Bool.true_and, Bool.and_true, Bool.false_and, Bool.and_false, Bool.false_eq_true, if_true, if_false, reduceIte, not_true_eq_false, not_false_eq_true, and_true, and_false, true_and, false_and, Nat.reduceEqDiff, reduceCtorEq]; rw [su_su] at hP9; exact hP9)) (by first | (subst hk57; rw [su_s, nI_pred]; simp (decide := true) only [cBuild, c12, Bool.true_and, Bool.and_true, Bool.false_and, Bool.and_false, Bool.false_eq_true, if_true, if_false, reduceIte, not_true_eq_false, not_false_eq_true, and_true, and_false, true_and, false_and, Nat.reduceEqDiff, reduceCtorEq]) | (simp (decide := true) only [cBuild, c12, Bool.true_and, Bool.and_true, Bool.false_and, Bool.and_false, Bool.false_eq_true, if_true, if_false, reduceIte, not_true_eq_false, not_false_eq_true, and_true, and_false, true_and, false_and, Nat.reduceEqDiff, reduceCtorEq]))
set_option maxHeartbeats 4000000 in
set_option maxRecDepth 100000 in
theorem m_X6_setPassers (l : Launch) (G : oG) (hI : wl_I G.2.1 39) (α β γ : oT) (nS : Nat) (nO : Nat) (nH : Nat) (hz : qOK α nS nO nH) (x : Int32) (y : Int32) (z : Int32) : Met l yX6_setPassers wsX6_setPassers ({ frames := 2, cells := 0, slots := 0, locals := 43 } : Room) (va_Pc [.ref (G.2.1 0), .int x, .int y, .int z] (PW G (mw G (z3 α β γ)))) (oQ (some (.int (if cSetP nS x y z = 0 then γ 42 0 (24 * oN x + oN y) else 0))) (fun H9 => va_P G.1 vwCl (mw G (z3 α β (if cSetP nS x y z = 0 then su (mT γ 0) 42 0 (24 * oN x + oN y) z else mT γ (cSetP nS x y z)))) H9) (mA G)) 0 0 (mA G) := by
  refine o_body (cc := cX6_setPassers) (by decide +kernel) rfl (Nat.le_of_ble_eq_true rfl) ?_
  intro p e s m below meth c ls hx hb hml hr hlocks hown hts hP hK hN hl
  have hown : s.vm.findClass RX6 = some m.cls := hown
  have hl : lv_has ls 5 [(0, .ref (G.2.1 0)), (1, .int x), (2, .int y), (3, .int z)] := hl
  have hS : va_S (mA G) s.heap s.heap [] := va_S.rf
  obtain ⟨hz1, hz2, hz3, hz4, hz5, hz6, hz7, hz8⟩ := id hz
  refine lv_aload_n hx hb dX6_setPassers_0 rfl (lv_at hl 0 rfl) ?_
  refine lv_iconst (v := 0) hx hb dX6_setPassers_1 (by decide) ?_
  refine va_put (D := G.1) (ci := 8) (v := .int 0) (ty := .int) (C := RX6) (T := TX6) (N := 6) hx hb hts (fun w9 h9 => List.mem_cons_of_mem _ (List.mem_append_left _ (List.mem_append_right _ (h9)))) tyX6 tyX6_ok nmX6 hown hK hP (mw_D G _ hI) hS (0) (mw_M G (z3 α β γ)) rfl 0 (by decide) (hts (.fieldLink RX6 28 "OrganCensusModel" "thrown" "I") (List.mem_of_getElem? (i := 1) rfl)) (fun _ h9 => h9) rfl (by decide +kernel) rfl rfl (Nat.le_of_ble_eq_true rfl) dX6_setPassers_2 (fun H locs hP hD hS => ?_)
  have hP : va_P G.1 vwCl (mw G (z3 α β (su γ 41 0 0 0))) H := by rw [← (mw_zP (a := α) (b := β) (c := γ) (τ' := su γ 41 0 0 0) (mw_uM0 G (z3 α β γ) 0))]; exact hP
  clear hD
  refine lv_aload_n hx hb dX6_setPassers_5 rfl (lv_at hl 0 rfl) ?_
  refine lv_iload_n hx hb dX6_setPassers_6 rfl (lv_at hl 1 rfl) ?_
  refine o_cVi (q0 := 0) (ci := 8) [.int x] [] ⟨hx, hb, hml, hown, hts⟩ (m_X6_isStreet l G α β (su γ 41 0 0 0) nS nO nH hz x) (cwV 1 hts gX6_setPassers_X6_isStreet rfl rfl rfl (by decide +kernel) ⟨Nat.le_of_ble_eq_true rfl, Nat.le_of_ble_eq_true rfl⟩) hK hN hP rfl rfl (mw_M G (z3 α β (su γ 41 0 0 0))) rfl hl.1 rfl (Nat.le_of_ble_eq_true rfl) dX6_setPassers_7 ⟨Nat.zero_le _, Nat.zero_le _⟩ ?_
  refine lv_if_eq (tgt := 23) hx hb dX6_setPassers_10 (by decide) (fun c10 => ?_) (fun c10 => ?_)
  · have c10 := bI_eq.mp c10
    refine lv_aload_n hx hb dX6_setPassers_23 rfl (lv_at hl 0 rfl) ?_
    refine lv_iconst (v := 1) hx hb dX6_setPassers_24 (by decide) ?_
    refine o_cVmi (q0 := 0) (ci := 8) [.int 1] [] ⟨hx, hb, hml, hown, hts⟩ (m_X6_no l G hI α β (su γ 41 0 0 0) 1) (cwV 1 hts gX6_setPassers_X6_no rfl rfl rfl (by decide +kernel) ⟨Nat.le_of_ble_eq_true rfl, Nat.le_of_ble_eq_true rfl⟩) hK hN hP hS rfl rfl (mw_M G (z3 α β (su γ 41 0 0 0))) rfl hl.1 rfl (Nat.le_of_ble_eq_true rfl) dX6_setPassers_25 ⟨Nat.zero_le _, Nat.zero_le _⟩ (fun H locs hP hS => ?_)
    exact o_iretM hx hb hr hlocks hS dX6_setPassers_28 (by have hP9 := hP; simp (decide := true) only [cSetP, mT, c10, Bool.true_and, Bool.and_true, Bool.false_and, Bool.and_false, Bool.false_eq_true, if_true, if_false, reduceIte, not_true_eq_false, not_false_eq_true, and_true, and_false, true_and, false_and, Nat.reduceEqDiff, reduceCtorEq]; first | exact hP9 | (rw [su_su] at hP9; exact hP9)) (by simp (decide := true) only [cSetP, mT, c10, Bool.true_and, Bool.and_true, Bool.false_and, Bool.and_false, Bool.false_eq_true, if_true, if_false, reduceIte, not_true_eq_false, not_false_eq_true, and_true, and_false, true_and, false_and, Nat.reduceEqDiff, reduceCtorEq]; try rfl)
  · have c10 := bI_ne.mp c10
    have n10 := oIn_lt (by omega) c10
    refine lv_iload_n hx hb dX6_setPassers_13 rfl (lv_at hl 2 rfl) ?_
    refine lv_iconst (v := 0) hx hb dX6_setPassers_14 (by decide) ?_
    refine lv_bipush (v := 23) hx hb dX6_setPassers_15 (by decide) ?_
    refine o_cSi [.int y, .int 0, .int 23] [] ⟨hx, hb, hml, hown, hts⟩ (m_X6_isIn l G (mw G (z3 α β (su γ 41 0 0 0))) y 0 23) (va_cwS 3 hts gX6_setPassers_X6_isIn rfl rfl rfl (by decide +kernel) ⟨Nat.le_of_ble_eq_true rfl, Nat.le_of_ble_eq_true rfl⟩) hK hN hP rfl hl.1 rfl (Nat.le_of_ble_eq_true rfl) dX6_setPassers_17 ⟨Nat.zero_le _, Nat.zero_le _⟩ ?_
    refine lv_if_ne (tgt := 29) hx hb dX6_setPassers_20 (by decide) (fun c20 => ?_) (fun c20 => ?_)
    · have c20 := bI_ne.mp c20
      have n20 := oRg_le (n := 23) (by decide) c20
      refine lv_iload_n hx hb dX6_setPassers_29 rfl (lv_at hl 3 rfl) ?_
      refine lv_iconst (v := 0) hx hb dX6_setPassers_30 (by decide) ?_
      refine lv_bipush (v := 99) hx hb dX6_setPassers_31 (by decide) ?_
      refine o_cSi [.int z, .int 0, .int 99] [] ⟨hx, hb, hml, hown, hts⟩ (m_X6_isIn l G (mw G (z3 α β (su γ 41 0 0 0))) z 0 99) (va_cwS 3 hts gX6_setPassers_X6_isIn rfl rfl rfl (by decide +kernel) ⟨Nat.le_of_ble_eq_true rfl, Nat.le_of_ble_eq_true rfl⟩) hK hN hP rfl hl.1 rfl (Nat.le_of_ble_eq_true rfl) dX6_setPassers_33 ⟨Nat.zero_le _, Nat.zero_le _⟩ ?_
      refine lv_if_ne (tgt := 45) hx hb dX6_setPassers_36 (by decide) (fun c36 => ?_) (fun c36 => ?_)
      · have c36 := bI_ne.mp c36
        have n36 := oRg_le (n := 99) (by decide) c36
        refine lv_aload_n hx hb dX6_setPassers_45 rfl (lv_at hl 0 rfl) ?_
        refine va_get (D := G.1) (ci := 8) (v := .ref (G.2.1 1)) (C := RX6) (T := TX6) (N := 6) hx hb hts (fun w9 h9 => List.mem_cons_of_mem _ (List.mem_append_left _ (List.mem_append_right _ (h9)))) hown hK hP (0) (mw_M G (z3 α β (su γ 41 0 0 0))) rfl 1 (by decide) (hts (.fieldLink RX6 9 "OrganCensusModel" "passers" "[I") (List.mem_of_getElem? (i := 2) rfl)) (fun _ h9 => h9) rfl dX6_setPassers_46 ?_
        refine lv_bipush (v := 24) hx hb dX6_setPassers_49 (by decide) ?_
        refine lv_iload_n hx hb dX6_setPassers_51 rfl (lv_at hl 1 rfl) ?_
        refine lv_imul hx hb dX6_setPassers_52 ?_
        refine lv_iload_n hx hb dX6_setPassers_53 rfl (lv_at hl 2 rfl) ?_
        refine lv_iadd hx hb dX6_setPassers_54 ?_
        refine o_iald (k := (24 * (oN x)) + (oN y)) hx hb hK hP (1) 0 (mw_MP G (z3 α β (su γ 41 0 0 0))) rfl (o_nadd (o_nmul (by decide) (oIn_x c10)) (oRg_x c20)) (by omega) (by decide) dX6_setPassers_55 ?_
        refine lv_istore (lv' := [(4, .int ((su γ 41 0 0 0) 42 0 ((24 * (oN x)) + (oN y)))), (0, .ref (G.2.1 0)), (1, .int x), (2, .int y), (3, .int z)]) hx hb dX6_setPassers_56 hl (by decide) rfl (fun ls hl => ?_)
        refine lv_aload_n hx hb dX6_setPassers_58 rfl (lv_at hl 1 rfl) ?_
        refine va_get (D := G.1) (ci := 8) (v := .ref (G.2.1 1)) (C := RX6) (T := TX6) (N := 6) hx hb hts (fun w9 h9 => List.mem_cons_of_mem _ (List.mem_append_left _ (List.mem_append_right _ (h9)))) hown hK hP (0) (mw_M G (z3 α β (su γ 41 0 0 0))) rfl 1 (by decide) (hts (.fieldLink RX6 9 "OrganCensusModel" "passers" "[I") (List.mem_of_getElem? (i := 2) rfl)) (fun _ h9 => h9) rfl dX6_setPassers_59 ?_
        refine lv_bipush (v := 24) hx hb dX6_setPassers_62 (by decide) ?_
        refine lv_iload_n hx hb dX6_setPassers_64 rfl (lv_at hl 2 rfl) ?_
        refine lv_imul hx hb dX6_setPassers_65 ?_
        refine lv_iload_n hx hb dX6_setPassers_66 rfl (lv_at hl 3 rfl) ?_
        refine lv_iadd hx hb dX6_setPassers_67 ?_
        refine lv_iload_n hx hb dX6_setPassers_68 rfl (lv_at hl 4 rfl) ?_
        refine o_iast (k := (24 * (oN x)) + (oN y)) hx hb hK hP (mw_D G _ hI) hS (1) 0 (mw_MP G (z3 α β (su γ 41 0 0 0))) rfl (o_nadd (o_nmul (by decide) (oIn_x c10)) (oRg_x c20)) (by omega) (by decide) dX6_setPassers_69 (fun H locs hP hD hS => ?_)
        have hP : va_P G.1 vwCl (mw G (z3 α β (su (su γ 41 0 0 0) 42 0 ((24 * (oN x)) + (oN y)) z))) H := by rw [← (mw_zP (a := α) (b := β) (c := (su γ 41 0 0 0)) (τ' := su (su γ 41 0 0 0) 42 0 ((24 * (oN x)) + (oN y)) z) (mw_uMP G (z3 α β (su γ 41 0 0 0)) ((24 * (oN x)) + (oN y)) z))]; exact hP
        clear hD
        refine lv_iload hx hb dX6_setPassers_70 (lv_at hl 0 rfl) ?_
        exact o_iretM hx hb hr hlocks hS dX6_setPassers_72 (by have hP9 := hP; simp (decide := true) only [cSetP, mT, c10, c20, c36, Bool.true_and, Bool.and_true, Bool.false_and, Bool.and_false, Bool.false_eq_true, if_true, if_false, reduceIte, not_true_eq_false, not_false_eq_true, and_true, and_false, true_and, false_and, Nat.reduceEqDiff, reduceCtorEq]; first | exact hP9 | (rw [su_su] at hP9; exact hP9)) (by simp (decide := true) only [cSetP, mT, c10, c20, c36, Bool.true_and, Bool.and_true, Bool.false_and, Bool.and_false, Bool.false_eq_true, if_true, if_false, reduceIte, not_true_eq_false, not_false_eq_true, and_true, and_false, true_and, false_and, Nat.reduceEqDiff, reduceCtorEq]; try rfl)
      · have c36 := bI_eq.mp c36
        refine lv_aload_n hx hb dX6_setPassers_39 rfl (lv_at hl 0 rfl) ?_
        refine lv_iconst (v := 2) hx hb dX6_setPassers_40 (by decide) ?_
        refine o_cVmi (q0 := 0) (ci := 8) [.int 2] [] ⟨hx, hb, hml, hown, hts⟩ (m_X6_no l G hI α β (su γ 41 0 0 0) 2) (cwV 1 hts gX6_setPassers_X6_no rfl rfl rfl (by decide +kernel) ⟨Nat.le_of_ble_eq_true rfl, Nat.le_of_ble_eq_true rfl⟩) hK hN hP hS rfl rfl (mw_M G (z3 α β (su γ 41 0 0 0))) rfl hl.1 rfl (Nat.le_of_ble_eq_true rfl) dX6_setPassers_41 ⟨Nat.zero_le _, Nat.zero_le _⟩ (fun H locs hP hS => ?_)
        exact o_iretM hx hb hr hlocks hS dX6_setPassers_44 (by have hP9 := hP; simp (decide := true) only [cSetP, mT, c10, c20, c36, Bool.true_and, Bool.and_true, Bool.false_and, Bool.and_false, Bool.false_eq_true, if_true, if_false, reduceIte, not_true_eq_false, not_false_eq_true, and_true, and_false, true_and, false_and, Nat.reduceEqDiff, reduceCtorEq]; first | exact hP9 | (rw [su_su] at hP9; exact hP9)) (by simp (decide := true) only [cSetP, mT, c10, c20, c36, Bool.true_and, Bool.and_true, Bool.false_and, Bool.and_false, Bool.false_eq_true, if_true, if_false, reduceIte, not_true_eq_false, not_false_eq_true, and_true, and_false, true_and, false_and, Nat.reduceEqDiff, reduceCtorEq]; try rfl)
    · have c20 := bI_eq.mp c20
      refine lv_aload_n hx hb dX6_setPassers_23 rfl (lv_at hl 0 rfl) ?_
      refine lv_iconst (v := 1) hx hb dX6_setPassers_24 (by decide) ?_
      refine o_cVmi (q0 := 0) (ci := 8) [.int 1] [] ⟨hx, hb, hml, hown, hts⟩ (m_X6_no l G hI α β (su γ 41 0 0 0) 1) (cwV 1 hts gX6_setPassers_X6_no rfl rfl rfl (by decide +kernel) ⟨Nat.le_of_ble_eq_true rfl, Nat.le_of_ble_eq_true rfl⟩) hK hN hP hS rfl rfl (mw_M G (z3 α β (su γ 41 0 0 0))) rfl hl.1 rfl (Nat.le_of_ble_eq_true rfl) dX6_setPassers_25 ⟨Nat.zero_le _, Nat.zero_le _⟩ (fun H locs hP hS => ?_)
      exact o_iretM hx hb hr hlocks hS dX6_setPassers_28 (by have hP9 := hP; simp (decide := true) only [cSetP, mT, c10, c20, Bool.true_and, Bool.and_true, Bool.false_and, Bool.and_false, Bool.false_eq_true, if_true, if_false, reduceIte, not_true_eq_false, not_false_eq_true, and_true, and_false, true_and, false_and, Nat.reduceEqDiff, reduceCtorEq]; first | exact hP9 | (rw [su_su] at hP9; exact hP9)) (by simp (decide := true) only [cSetP, mT, c10, c20, Bool.true_and, Bool.and_true, Bool.false_and, Bool.and_false, Bool.false_eq_true, if_true, if_false, reduceIte, not_true_eq_false, not_false_eq_true, and_true, and_false, true_and, false_and, Nat.reduceEqDiff, reduceCtorEq]; try rfl)
set_option maxHeartbeats 4000000 in
set_option maxRecDepth 100000 in
theorem m_X6_setTaste (l : Launch) (G : oG) (hI : wl_I G.2.1 39) (α β γ : oT) (nS : Nat) (nO : Nat) (nH : Nat) (hz : qOK α nS nO nH) (x : Int32) (y : Int32) (z : Int32) : Met l yX6_setTaste wsX6_setTaste ({ frames := 2, cells := 0, slots := 0, locals := 43 } : Room) (va_Pc [.ref (G.2.1 0), .int x, .int y, .int z] (PW G (mw G (z3 α β γ)))) (oQ (some (.int (if cSetT nS x y z = 0 then α 2 0 (6 * oN x + oN y) else 0))) (fun H9 => va_P G.1 vwCl (mw G (z3 (if cSetT nS x y z = 0 then su α 2 0 (6 * oN x + oN y) z else α) β (mT γ (cSetT nS x y z)))) H9) (mA G)) 0 0 (mA G) := by
  refine o_body (cc := cX6_setTaste) (by decide +kernel) rfl (Nat.le_of_ble_eq_true rfl) ?_
  intro p e s m below meth c ls hx hb hml hr hlocks hown hts hP hK hN hl
  have hown : s.vm.findClass RX6 = some m.cls := hown
  have hl : lv_has ls 5 [(0, .ref (G.2.1 0)), (1, .int x), (2, .int y), (3, .int z)] := hl
  have hS : va_S (mA G) s.heap s.heap [] := va_S.rf
  obtain ⟨hz1, hz2, hz3, hz4, hz5, hz6, hz7, hz8⟩ := id hz
  refine lv_aload_n hx hb dX6_setTaste_0 rfl (lv_at hl 0 rfl) ?_
  refine lv_iconst (v := 0) hx hb dX6_setTaste_1 (by decide) ?_
  refine va_put (D := G.1) (ci := 8) (v := .int 0) (ty := .int) (C := RX6) (T := TX6) (N := 6) hx hb hts (fun w9 h9 => List.mem_cons_of_mem _ (List.mem_append_left _ (List.mem_append_right _ (h9)))) tyX6 tyX6_ok nmX6 hown hK hP (mw_D G _ hI) hS (0) (mw_M G (z3 α β γ)) rfl 0 (by decide) (hts (.fieldLink RX6 28 "OrganCensusModel" "thrown" "I") (List.mem_of_getElem? (i := 1) rfl)) (fun _ h9 => h9) rfl (by decide +kernel) rfl rfl (Nat.le_of_ble_eq_true rfl) dX6_setTaste_2 (fun H locs hP hD hS => ?_)
  have hP : va_P G.1 vwCl (mw G (z3 α β (su γ 41 0 0 0))) H := by rw [← (mw_zP (a := α) (b := β) (c := γ) (τ' := su γ 41 0 0 0) (mw_uM0 G (z3 α β γ) 0))]; exact hP
  clear hD
  refine lv_aload_n hx hb dX6_setTaste_5 rfl (lv_at hl 0 rfl) ?_
  refine lv_iload_n hx hb dX6_setTaste_6 rfl (lv_at hl 1 rfl) ?_
  refine o_cVi (q0 := 0) (ci := 8) [.int x] [] ⟨hx, hb, hml, hown, hts⟩ (m_X6_isStreet l G α β (su γ 41 0 0 0) nS nO nH hz x) (cwV 1 hts gX6_setTaste_X6_isStreet rfl rfl rfl (by decide +kernel) ⟨Nat.le_of_ble_eq_true rfl, Nat.le_of_ble_eq_true rfl⟩) hK hN hP rfl rfl (mw_M G (z3 α β (su γ 41 0 0 0))) rfl hl.1 rfl (Nat.le_of_ble_eq_true rfl) dX6_setTaste_7 ⟨Nat.zero_le _, Nat.zero_le _⟩ ?_
  refine lv_if_eq (tgt := 22) hx hb dX6_setTaste_10 (by decide) (fun c10 => ?_) (fun c10 => ?_)
  · have c10 := bI_eq.mp c10
    refine lv_aload_n hx hb dX6_setTaste_22 rfl (lv_at hl 0 rfl) ?_
    refine lv_iconst (v := 1) hx hb dX6_setTaste_23 (by decide) ?_
    refine o_cVmi (q0 := 0) (ci := 8) [.int 1] [] ⟨hx, hb, hml, hown, hts⟩ (m_X6_no l G hI α β (su γ 41 0 0 0) 1) (cwV 1 hts gX6_setTaste_X6_no rfl rfl rfl (by decide +kernel) ⟨Nat.le_of_ble_eq_true rfl, Nat.le_of_ble_eq_true rfl⟩) hK hN hP hS rfl rfl (mw_M G (z3 α β (su γ 41 0 0 0))) rfl hl.1 rfl (Nat.le_of_ble_eq_true rfl) dX6_setTaste_24 ⟨Nat.zero_le _, Nat.zero_le _⟩ (fun H locs hP hS => ?_)
    exact o_iretM hx hb hr hlocks hS dX6_setTaste_27 (by have hP9 := hP; simp (decide := true) only [cSetT, mT, c10, Bool.true_and, Bool.and_true, Bool.false_and, Bool.and_false, Bool.false_eq_true, if_true, if_false, reduceIte, not_true_eq_false, not_false_eq_true, and_true, and_false, true_and, false_and, Nat.reduceEqDiff, reduceCtorEq]; first | exact hP9 | (rw [su_su] at hP9; exact hP9)) (by simp (decide := true) only [cSetT, mT, c10, Bool.true_and, Bool.and_true, Bool.false_and, Bool.and_false, Bool.false_eq_true, if_true, if_false, reduceIte, not_true_eq_false, not_false_eq_true, and_true, and_false, true_and, false_and, Nat.reduceEqDiff, reduceCtorEq]; try rfl)
  · have c10 := bI_ne.mp c10
    have n10 := oIn_lt (by omega) c10
    refine lv_iload_n hx hb dX6_setTaste_13 rfl (lv_at hl 2 rfl) ?_
    refine lv_iconst (v := 0) hx hb dX6_setTaste_14 (by decide) ?_
    refine lv_iconst (v := 5) hx hb dX6_setTaste_15 (by decide) ?_
    refine o_cSi [.int y, .int 0, .int 5] [] ⟨hx, hb, hml, hown, hts⟩ (m_X6_isIn l G (mw G (z3 α β (su γ 41 0 0 0))) y 0 5) (va_cwS 3 hts gX6_setTaste_X6_isIn rfl rfl rfl (by decide +kernel) ⟨Nat.le_of_ble_eq_true rfl, Nat.le_of_ble_eq_true rfl⟩) hK hN hP rfl hl.1 rfl (Nat.le_of_ble_eq_true rfl) dX6_setTaste_16 ⟨Nat.zero_le _, Nat.zero_le _⟩ ?_
    refine lv_if_ne (tgt := 28) hx hb dX6_setTaste_19 (by decide) (fun c19 => ?_) (fun c19 => ?_)
    · have c19 := bI_ne.mp c19
      have n19 := oRg_le (n := 5) (by decide) c19
      refine lv_iload_n hx hb dX6_setTaste_28 rfl (lv_at hl 3 rfl) ?_
      refine lv_iconst (v := 0) hx hb dX6_setTaste_29 (by decide) ?_
      refine lv_bipush (v := 9) hx hb dX6_setTaste_30 (by decide) ?_
      refine o_cSi [.int z, .int 0, .int 9] [] ⟨hx, hb, hml, hown, hts⟩ (m_X6_isIn l G (mw G (z3 α β (su γ 41 0 0 0))) z 0 9) (va_cwS 3 hts gX6_setTaste_X6_isIn rfl rfl rfl (by decide +kernel) ⟨Nat.le_of_ble_eq_true rfl, Nat.le_of_ble_eq_true rfl⟩) hK hN hP rfl hl.1 rfl (Nat.le_of_ble_eq_true rfl) dX6_setTaste_32 ⟨Nat.zero_le _, Nat.zero_le _⟩ ?_
      refine lv_if_ne (tgt := 44) hx hb dX6_setTaste_35 (by decide) (fun c35 => ?_) (fun c35 => ?_)
      · have c35 := bI_ne.mp c35
        have n35 := oRg_le (n := 9) (by decide) c35
        refine lv_aload_n hx hb dX6_setTaste_44 rfl (lv_at hl 0 rfl) ?_
        refine va_get (D := G.1) (ci := 8) (v := .ref (ms G 0 0)) (C := RX6) (T := TX6) (N := 6) hx hb hts (fun w9 h9 => List.mem_cons_of_mem _ (List.mem_append_left _ (List.mem_append_right _ (h9)))) hown hK hP (0) (mw_M G (z3 α β (su γ 41 0 0 0))) rfl 4 (by decide) (hts (.fieldLink RX6 21 "OrganCensusModel" "s" "LOrganCensusModel$State;") (List.mem_of_getElem? (i := 2) rfl)) (fun _ h9 => h9) rfl dX6_setTaste_45 ?_
        refine va_getN (D := G.1) (ci := 7) (v := .ref (ms G 0 2)) (C := RX5) (T := TX5) (N := 21) hx hb hts (fun w9 h9 => List.mem_cons_of_mem _ (List.mem_append_right _ (h9))) hown hK hP (3 + 18 * 0 + (0)) (mv_S G (z3 α β (su γ 41 0 0 0)) (show 0 < 2 by decide)) rfl 3 (by decide) (va_Nw.use rfl (hN.1 (RX6, 53, RX5, "taste", "[I", RX6) (List.mem_of_getElem? (i := 3) rfl))) (fun _ h9 => h9) rfl dX6_setTaste_48 ?_
        refine lv_bipush (v := 6) hx hb dX6_setTaste_51 (by decide) ?_
        refine lv_iload_n hx hb dX6_setTaste_53 rfl (lv_at hl 1 rfl) ?_
        refine lv_imul hx hb dX6_setTaste_54 ?_
        refine lv_iload_n hx hb dX6_setTaste_55 rfl (lv_at hl 2 rfl) ?_
        refine lv_iadd hx hb dX6_setTaste_56 ?_
        refine o_iald (k := (6 * (oN x)) + (oN y)) hx hb hK hP (3 + 18 * 0 + (2)) 0 (mv_A2 G (z3 α β (su γ 41 0 0 0)) (show 0 < 2 by decide)) rfl (o_nadd (o_nmul (by decide) (oIn_x c10)) (oRg_x c19)) (by omega) (by decide) dX6_setTaste_57 ?_
        refine lv_istore (lv' := [(4, .int (α 2 0 ((6 * (oN x)) + (oN y)))), (0, .ref (G.2.1 0)), (1, .int x), (2, .int y), (3, .int z)]) hx hb dX6_setTaste_58 hl (by decide) rfl (fun ls hl => ?_)
        refine lv_aload_n hx hb dX6_setTaste_60 rfl (lv_at hl 1 rfl) ?_
        refine va_get (D := G.1) (ci := 8) (v := .ref (ms G 0 0)) (C := RX6) (T := TX6) (N := 6) hx hb hts (fun w9 h9 => List.mem_cons_of_mem _ (List.mem_append_left _ (List.mem_append_right _ (h9)))) hown hK hP (0) (mw_M G (z3 α β (su γ 41 0 0 0))) rfl 4 (by decide) (hts (.fieldLink RX6 21 "OrganCensusModel" "s" "LOrganCensusModel$State;") (List.mem_of_getElem? (i := 2) rfl)) (fun _ h9 => h9) rfl dX6_setTaste_61 ?_
        refine va_getN (D := G.1) (ci := 7) (v := .ref (ms G 0 2)) (C := RX5) (T := TX5) (N := 21) hx hb hts (fun w9 h9 => List.mem_cons_of_mem _ (List.mem_append_right _ (h9))) hown hK hP (3 + 18 * 0 + (0)) (mv_S G (z3 α β (su γ 41 0 0 0)) (show 0 < 2 by decide)) rfl 3 (by decide) (va_Nw.use rfl (hN.1 (RX6, 53, RX5, "taste", "[I", RX6) (List.mem_of_getElem? (i := 3) rfl))) (fun _ h9 => h9) rfl dX6_setTaste_64 ?_
        refine lv_bipush (v := 6) hx hb dX6_setTaste_67 (by decide) ?_
        refine lv_iload_n hx hb dX6_setTaste_69 rfl (lv_at hl 2 rfl) ?_
        refine lv_imul hx hb dX6_setTaste_70 ?_
        refine lv_iload_n hx hb dX6_setTaste_71 rfl (lv_at hl 3 rfl) ?_
        refine lv_iadd hx hb dX6_setTaste_72 ?_
        refine lv_iload_n hx hb dX6_setTaste_73 rfl (lv_at hl 4 rfl) ?_
        refine o_iast (k := (6 * (oN x)) + (oN y)) hx hb hK hP (mw_D G _ hI) hS (3 + 18 * 0 + (2)) 0 (mv_A2 G (z3 α β (su γ 41 0 0 0)) (show 0 < 2 by decide)) rfl (o_nadd (o_nmul (by decide) (oIn_x c10)) (oRg_x c19)) (by omega) (by decide) dX6_setTaste_74 (fun H locs hP hD hS => ?_)
        have hP : va_P G.1 vwCl (mw G (z3 (su α 2 0 ((6 * (oN x)) + (oN y)) z) β (su γ 41 0 0 0))) H := by rw [← (mu_z0 (a := α) (b := β) (c := (su γ 41 0 0 0)) (τ' := su α 2 0 ((6 * (oN x)) + (oN y)) z) (mvu_A2 G (z3 α β (su γ 41 0 0 0)) (show 0 < 2 by decide) ((6 * (oN x)) + (oN y)) z))]; exact hP
        clear hD
        refine lv_iload hx hb dX6_setTaste_75 (lv_at hl 0 rfl) ?_
        exact o_iretM hx hb hr hlocks hS dX6_setTaste_77 (by have hP9 := hP; simp (decide := true) only [cSetT, mT, c10, c19, c35, Bool.true_and, Bool.and_true, Bool.false_and, Bool.and_false, Bool.false_eq_true, if_true, if_false, reduceIte, not_true_eq_false, not_false_eq_true, and_true, and_false, true_and, false_and, Nat.reduceEqDiff, reduceCtorEq]; first | exact hP9 | (rw [su_su] at hP9; exact hP9)) (by simp (decide := true) only [cSetT, mT, c10, c19, c35, Bool.true_and, Bool.and_true, Bool.false_and, Bool.and_false, Bool.false_eq_true, if_true, if_false, reduceIte, not_true_eq_false, not_false_eq_true, and_true, and_false, true_and, false_and, Nat.reduceEqDiff, reduceCtorEq]; try rfl)
      · have c35 := bI_eq.mp c35
        refine lv_aload_n hx hb dX6_setTaste_38 rfl (lv_at hl 0 rfl) ?_
        refine lv_iconst (v := 2) hx hb dX6_setTaste_39 (by decide) ?_
        refine o_cVmi (q0 := 0) (ci := 8) [.int 2] [] ⟨hx, hb, hml, hown, hts⟩ (m_X6_no l G hI α β (su γ 41 0 0 0) 2) (cwV 1 hts gX6_setTaste_X6_no rfl rfl rfl (by decide +kernel) ⟨Nat.le_of_ble_eq_true rfl, Nat.le_of_ble_eq_true rfl⟩) hK hN hP hS rfl rfl (mw_M G (z3 α β (su γ 41 0 0 0))) rfl hl.1 rfl (Nat.le_of_ble_eq_true rfl) dX6_setTaste_40 ⟨Nat.zero_le _, Nat.zero_le _⟩ (fun H locs hP hS => ?_)
        exact o_iretM hx hb hr hlocks hS dX6_setTaste_43 (by have hP9 := hP; simp (decide := true) only [cSetT, mT, c10, c19, c35, Bool.true_and, Bool.and_true, Bool.false_and, Bool.and_false, Bool.false_eq_true, if_true, if_false, reduceIte, not_true_eq_false, not_false_eq_true, and_true, and_false, true_and, false_and, Nat.reduceEqDiff, reduceCtorEq]; first | exact hP9 | (rw [su_su] at hP9; exact hP9)) (by simp (decide := true) only [cSetT, mT, c10, c19, c35, Bool.true_and, Bool.and_true, Bool.false_and, Bool.and_false, Bool.false_eq_true, if_true, if_false, reduceIte, not_true_eq_false, not_false_eq_true, and_true, and_false, true_and, false_and, Nat.reduceEqDiff, reduceCtorEq]; try rfl)
    · have c19 := bI_eq.mp c19
      refine lv_aload_n hx hb dX6_setTaste_22 rfl (lv_at hl 0 rfl) ?_
      refine lv_iconst (v := 1) hx hb dX6_setTaste_23 (by decide) ?_
      refine o_cVmi (q0 := 0) (ci := 8) [.int 1] [] ⟨hx, hb, hml, hown, hts⟩ (m_X6_no l G hI α β (su γ 41 0 0 0) 1) (cwV 1 hts gX6_setTaste_X6_no rfl rfl rfl (by decide +kernel) ⟨Nat.le_of_ble_eq_true rfl, Nat.le_of_ble_eq_true rfl⟩) hK hN hP hS rfl rfl (mw_M G (z3 α β (su γ 41 0 0 0))) rfl hl.1 rfl (Nat.le_of_ble_eq_true rfl) dX6_setTaste_24 ⟨Nat.zero_le _, Nat.zero_le _⟩ (fun H locs hP hS => ?_)
      exact o_iretM hx hb hr hlocks hS dX6_setTaste_27 (by have hP9 := hP; simp (decide := true) only [cSetT, mT, c10, c19, Bool.true_and, Bool.and_true, Bool.false_and, Bool.and_false, Bool.false_eq_true, if_true, if_false, reduceIte, not_true_eq_false, not_false_eq_true, and_true, and_false, true_and, false_and, Nat.reduceEqDiff, reduceCtorEq]; first | exact hP9 | (rw [su_su] at hP9; exact hP9)) (by simp (decide := true) only [cSetT, mT, c10, c19, Bool.true_and, Bool.and_true, Bool.false_and, Bool.and_false, Bool.false_eq_true, if_true, if_false, reduceIte, not_true_eq_false, not_false_eq_true, and_true, and_false, true_and, false_and, Nat.reduceEqDiff, reduceCtorEq]; try rfl)
set_option maxHeartbeats 4000000 in
set_option maxRecDepth 100000 in
theorem m_X6_streetTold (l : Launch) (G : oG) (α β γ : oT) (nS : Nat) (nO : Nat) (nH : Nat) (hz : qOK α nS nO nH) (r : Nat) (ar : Int32) (er : ar = nI r) (hrS : r < nS) (k : Nat) (ak : Int32) (ek : ak = nI k) (hk : k < 8) : Met l yX6_streetTold wsX6_streetTold ({ frames := 5, cells := 0, slots := 0, locals := 119 } : Room) (va_Pc [.ref (G.2.1 0), .int ar, .int ak] (PW G (mw G (z3 α β γ)))) (oR (some (.int (qStT α γ nO nH r k)))) 0 0 (fun _ => False) := by
  subst er
  subst ek
  refine o_body (cc := cX6_streetTold) (by decide +kernel) rfl (Nat.le_of_ble_eq_true rfl) ?_
  intro p e s m below meth c ls hx hb hml hr hlocks hown hts hP hK hN hl
  have hown : s.vm.findClass RX6 = some m.cls := hown
  have hl : lv_has ls 3 [(0, .ref (G.2.1 0)), (1, .int (nI r)), (2, .int (nI k))] := hl
  obtain ⟨hz1, hz2, hz3, hz4, hz5, hz6, hz7, hz8⟩ := id hz
  refine lv_iload_n hx hb dX6_streetTold_0 rfl (lv_at hl 2 rfl) ?_
  rcases (show k = 0 ∨ k = 1 ∨ k = 2 ∨ k = 3 ∨ k = 4 ∨ k = 5 ∨ k = 6 ∨ k = 7 by omega) with rfl | rfl | rfl | rfl | rfl | rfl | rfl | rfl
  · refine lv_tableIn (off := 39) (tgt := 40) hx hb dX6_streetTold_1 (by decide) (by decide) (by decide) (by decide) ?_
    refine lv_aload_n hx hb dX6_streetTold_40 rfl (lv_at hl 0 rfl) ?_
    refine va_get (D := G.1) (ci := 8) (v := .ref (ms G 0 0)) (C := RX6) (T := TX6) (N := 6) hx hb hts (fun w9 h9 => List.mem_cons_of_mem _ (List.mem_append_left _ (List.mem_append_right _ (h9)))) hown hK hP (0) (mw_M G (z3 α β γ)) rfl 4 (by decide) (hts (.fieldLink RX6 21 "OrganCensusModel" "s" "LOrganCensusModel$State;") (List.mem_of_getElem? (i := 1) rfl)) (fun _ h9 => h9) rfl dX6_streetTold_41 ?_
    refine va_getN (D := G.1) (ci := 7) (v := .ref (ms G 0 1)) (C := RX5) (T := TX5) (N := 21) hx hb hts (fun w9 h9 => List.mem_cons_of_mem _ (List.mem_append_right _ (h9))) hown hK hP (3 + 18 * 0 + (0)) (mv_S G (z3 α β γ) (show 0 < 2 by decide)) rfl 2 (by decide) (va_Nw.use rfl (hN.1 (RX6, 46, RX5, "pitches", "[I", RX6) (List.mem_of_getElem? (i := 2) rfl))) (fun _ h9 => h9) rfl dX6_streetTold_44 ?_
    refine lv_iload_n hx hb dX6_streetTold_47 rfl (lv_at hl 1 rfl) ?_
    refine o_iald (k := r) hx hb hK hP (3 + 18 * 0 + (1)) 0 (mv_A1 G (z3 α β γ) (show 0 < 2 by decide)) rfl rfl (by omega) (by decide) dX6_streetTold_48 ?_
    exact o_iretR hx hb hr hlocks dX6_streetTold_49 (by first | rfl | exact absurd (by decide) c118 | exact absurd c118 (by decide))
  · refine lv_tableIn (off := 49) (tgt := 50) hx hb dX6_streetTold_1 (by decide) (by decide) (by decide) (by decide) ?_
    refine lv_aload_n hx hb dX6_streetTold_50 rfl (lv_at hl 0 rfl) ?_
    refine va_get (D := G.1) (ci := 8) (v := .ref (G.2.1 1)) (C := RX6) (T := TX6) (N := 6) hx hb hts (fun w9 h9 => List.mem_cons_of_mem _ (List.mem_append_left _ (List.mem_append_right _ (h9)))) hown hK hP (0) (mw_M G (z3 α β γ)) rfl 1 (by decide) (hts (.fieldLink RX6 9 "OrganCensusModel" "passers" "[I") (List.mem_of_getElem? (i := 2) rfl)) (fun _ h9 => h9) rfl dX6_streetTold_51 ?_
    refine lv_bipush (v := 24) hx hb dX6_streetTold_54 (by decide) ?_
    refine lv_iload_n hx hb dX6_streetTold_56 rfl (lv_at hl 1 rfl) ?_
    refine lv_imul hx hb dX6_streetTold_57 ?_
    refine lv_aload_n hx hb dX6_streetTold_58 rfl (lv_at hl 0 rfl) ?_
    refine va_get (D := G.1) (ci := 8) (v := .ref (ms G 0 0)) (C := RX6) (T := TX6) (N := 6) hx hb hts (fun w9 h9 => List.mem_cons_of_mem _ (List.mem_append_left _ (List.mem_append_right _ (h9)))) hown hK hP (0) (mw_M G (z3 α β γ)) rfl 4 (by decide) (hts (.fieldLink RX6 21 "OrganCensusModel" "s" "LOrganCensusModel$State;") (List.mem_of_getElem? (i := 1) rfl)) (fun _ h9 => h9) rfl dX6_streetTold_59 ?_
    refine va_getN (D := G.1) (ci := 7) (v := .int (α 40 0 0)) (C := RX5) (T := TX5) (N := 21) hx hb hts (fun w9 h9 => List.mem_cons_of_mem _ (List.mem_append_right _ (h9))) hown hK hP (3 + 18 * 0 + (0)) (mv_S G (z3 α β γ) (show 0 < 2 by decide)) rfl 0 (by decide) (va_Nw.use rfl (hN.1 (RX6, 56, RX5, "hour", "I", RX6) (List.mem_of_getElem? (i := 4) rfl))) (fun _ h9 => h9) rfl dX6_streetTold_62 ?_
    refine lv_bipush (v := 24) hx hb dX6_streetTold_65 (by decide) ?_
    refine o_irem hx hb dX6_streetTold_67 (by decide) ?_
    refine lv_iadd hx hb dX6_streetTold_68 ?_
    refine o_iald (k := (24 * r) + (nH % 24)) hx hb hK hP (1) 0 (mw_MP G (z3 α β γ)) rfl (o_nadd (o_nmul (by decide) rfl) (o_rem_n hz5 (by decide) (by omega) (by decide) (by decide))) (by omega) (by decide) dX6_streetTold_69 ?_
    exact o_iretR hx hb hr hlocks dX6_streetTold_70 (by first | rfl | exact absurd (by decide) c118 | exact absurd c118 (by decide))
  · refine lv_tableIn (off := 70) (tgt := 71) hx hb dX6_streetTold_1 (by decide) (by decide) (by decide) (by decide) ?_
    refine lv_aload_n hx hb dX6_streetTold_71 rfl (lv_at hl 0 rfl) ?_
    refine va_get (D := G.1) (ci := 8) (v := .ref (ms G 0 0)) (C := RX6) (T := TX6) (N := 6) hx hb hts (fun w9 h9 => List.mem_cons_of_mem _ (List.mem_append_left _ (List.mem_append_right _ (h9)))) hown hK hP (0) (mw_M G (z3 α β γ)) rfl 4 (by decide) (hts (.fieldLink RX6 21 "OrganCensusModel" "s" "LOrganCensusModel$State;") (List.mem_of_getElem? (i := 1) rfl)) (fun _ h9 => h9) rfl dX6_streetTold_72 ?_
    refine lv_iload_n hx hb dX6_streetTold_75 rfl (lv_at hl 1 rfl) ?_
    have hP : va_P G.1 vwCl (mtw G (z3 α β γ) 0 α) s.heap := by rw [mz0]; exact hP
    refine o_cVi (q0 := 3 + 18 * 0 + (0)) (ci := 7) [.int (nI r)] [] ⟨hx, hb, hml, hown, hts⟩ (m_X5_standing l G (z3 α β γ) (show 0 < 2 by decide) α nS nO nH hz (nI r)) (cwV 1 hts gX6_streetTold_X5_standing rfl rfl rfl (by decide +kernel) ⟨Nat.le_of_ble_eq_true rfl, Nat.le_of_ble_eq_true rfl⟩) hK hN hP rfl rfl (mt_S G (z3 α β γ) (show 0 < 2 by decide) α) rfl hl.1 rfl (Nat.le_of_ble_eq_true rfl) dX6_streetTold_76 ⟨Nat.zero_le _, Nat.zero_le _⟩ ?_
    have hP : va_P G.1 vwCl (mw G (z3 α β γ)) s.heap := by rw [mz0] at hP; exact hP
    exact o_iretR hx hb hr hlocks dX6_streetTold_79 (by first | rfl | exact absurd (by decide) c118 | exact absurd c118 (by decide))
  · refine lv_tableIn (off := 79) (tgt := 80) hx hb dX6_streetTold_1 (by decide) (by decide) (by decide) (by decide) ?_
    refine lv_aload_n hx hb dX6_streetTold_80 rfl (lv_at hl 0 rfl) ?_
    refine va_get (D := G.1) (ci := 8) (v := .ref (ms G 0 0)) (C := RX6) (T := TX6) (N := 6) hx hb hts (fun w9 h9 => List.mem_cons_of_mem _ (List.mem_append_left _ (List.mem_append_right _ (h9)))) hown hK hP (0) (mw_M G (z3 α β γ)) rfl 4 (by decide) (hts (.fieldLink RX6 21 "OrganCensusModel" "s" "LOrganCensusModel$State;") (List.mem_of_getElem? (i := 1) rfl)) (fun _ h9 => h9) rfl dX6_streetTold_81 ?_
    refine lv_iload_n hx hb dX6_streetTold_84 rfl (lv_at hl 1 rfl) ?_
    refine lv_iconst (v := (-1)) hx hb dX6_streetTold_85 (by decide) ?_
    have hP : va_P G.1 vwCl (mtw G (z3 α β γ) 0 α) s.heap := by rw [mz0]; exact hP
    refine o_cVi (q0 := 3 + 18 * 0 + (0)) (ci := 7) [.int (nI r), .int ((-1))] [] ⟨hx, hb, hml, hown, hts⟩ (m_X5_complaintsOf l G (z3 α β γ) (show 0 < 2 by decide) α nS nO nH hz (nI r) (-1)) (cwV 2 hts gX6_streetTold_X5_complaintsOf rfl rfl rfl (by decide +kernel) ⟨Nat.le_of_ble_eq_true rfl, Nat.le_of_ble_eq_true rfl⟩) hK hN hP rfl rfl (mt_S G (z3 α β γ) (show 0 < 2 by decide) α) rfl hl.1 rfl (Nat.le_of_ble_eq_true rfl) dX6_streetTold_86 ⟨Nat.zero_le _, Nat.zero_le _⟩ ?_
    have hP : va_P G.1 vwCl (mw G (z3 α β γ)) s.heap := by rw [mz0] at hP; exact hP
    exact o_iretR hx hb hr hlocks dX6_streetTold_89 (by first | rfl | exact absurd (by decide) c118 | exact absurd c118 (by decide))
  · refine lv_tableIn (off := 89) (tgt := 90) hx hb dX6_streetTold_1 (by decide) (by decide) (by decide) (by decide) ?_
    refine lv_aload_n hx hb dX6_streetTold_90 rfl (lv_at hl 0 rfl) ?_
    refine va_get (D := G.1) (ci := 8) (v := .ref (ms G 0 0)) (C := RX6) (T := TX6) (N := 6) hx hb hts (fun w9 h9 => List.mem_cons_of_mem _ (List.mem_append_left _ (List.mem_append_right _ (h9)))) hown hK hP (0) (mw_M G (z3 α β γ)) rfl 4 (by decide) (hts (.fieldLink RX6 21 "OrganCensusModel" "s" "LOrganCensusModel$State;") (List.mem_of_getElem? (i := 1) rfl)) (fun _ h9 => h9) rfl dX6_streetTold_91 ?_
    refine va_getN (D := G.1) (ci := 7) (v := .ref (ms G 0 4)) (C := RX5) (T := TX5) (N := 21) hx hb hts (fun w9 h9 => List.mem_cons_of_mem _ (List.mem_append_right _ (h9))) hown hK hP (3 + 18 * 0 + (0)) (mv_S G (z3 α β γ) (show 0 < 2 by decide)) rfl 5 (by decide) (va_Nw.use rfl (hN.1 (RX6, 66, RX5, "given", "[I", RX6) (List.mem_of_getElem? (i := 5) rfl))) (fun _ h9 => h9) rfl dX6_streetTold_94 ?_
    refine lv_iload_n hx hb dX6_streetTold_97 rfl (lv_at hl 1 rfl) ?_
    refine o_iald (k := r) hx hb hK hP (3 + 18 * 0 + (4)) 0 (mv_A4 G (z3 α β γ) (show 0 < 2 by decide)) rfl rfl (by omega) (by decide) dX6_streetTold_98 ?_
    exact o_iretR hx hb hr hlocks dX6_streetTold_99 (by first | rfl | exact absurd (by decide) c118 | exact absurd c118 (by decide))
  · refine lv_tableIn (off := 99) (tgt := 100) hx hb dX6_streetTold_1 (by decide) (by decide) (by decide) (by decide) ?_
    refine lv_aload_n hx hb dX6_streetTold_100 rfl (lv_at hl 0 rfl) ?_
    refine va_get (D := G.1) (ci := 8) (v := .ref (ms G 0 0)) (C := RX6) (T := TX6) (N := 6) hx hb hts (fun w9 h9 => List.mem_cons_of_mem _ (List.mem_append_left _ (List.mem_append_right _ (h9)))) hown hK hP (0) (mw_M G (z3 α β γ)) rfl 4 (by decide) (hts (.fieldLink RX6 21 "OrganCensusModel" "s" "LOrganCensusModel$State;") (List.mem_of_getElem? (i := 1) rfl)) (fun _ h9 => h9) rfl dX6_streetTold_101 ?_
    refine va_getN (D := G.1) (ci := 7) (v := .ref (ms G 0 5)) (C := RX5) (T := TX5) (N := 21) hx hb hts (fun w9 h9 => List.mem_cons_of_mem _ (List.mem_append_right _ (h9))) hown hK hP (3 + 18 * 0 + (0)) (mv_S G (z3 α β γ) (show 0 < 2 by decide)) rfl 6 (by decide) (va_Nw.use rfl (hN.1 (RX6, 69, RX5, "sent", "[I", RX6) (List.mem_of_getElem? (i := 6) rfl))) (fun _ h9 => h9) rfl dX6_streetTold_104 ?_
    refine lv_iload_n hx hb dX6_streetTold_107 rfl (lv_at hl 1 rfl) ?_
    refine o_iald (k := r) hx hb hK hP (3 + 18 * 0 + (5)) 0 (mv_A5 G (z3 α β γ) (show 0 < 2 by decide)) rfl rfl (by omega) (by decide) dX6_streetTold_108 ?_
    exact o_iretR hx hb hr hlocks dX6_streetTold_109 (by first | rfl | exact absurd (by decide) c118 | exact absurd c118 (by decide))
  · refine lv_tableOut (tgt := 110) hx hb dX6_streetTold_1 (by decide) (by decide) ?_
    refine lv_aload_n hx hb dX6_streetTold_110 rfl (lv_at hl 0 rfl) ?_
    refine va_get (D := G.1) (ci := 8) (v := .ref (ms G 0 0)) (C := RX6) (T := TX6) (N := 6) hx hb hts (fun w9 h9 => List.mem_cons_of_mem _ (List.mem_append_left _ (List.mem_append_right _ (h9)))) hown hK hP (0) (mw_M G (z3 α β γ)) rfl 4 (by decide) (hts (.fieldLink RX6 21 "OrganCensusModel" "s" "LOrganCensusModel$State;") (List.mem_of_getElem? (i := 1) rfl)) (fun _ h9 => h9) rfl dX6_streetTold_111 ?_
    refine lv_iload_n hx hb dX6_streetTold_114 rfl (lv_at hl 1 rfl) ?_
    refine lv_iload_n hx hb dX6_streetTold_115 rfl (lv_at hl 2 rfl) ?_
    refine lv_bipush (v := 6) hx hb dX6_streetTold_116 (by decide) ?_
    refine lv_icmp_ne (tgt := 125) hx hb dX6_streetTold_118 (by decide) (fun c118 => ?_) (fun c118 => ?_)
    · refine lv_iconst (v := 0) hx hb dX6_streetTold_125 (by decide) ?_
      have hP : va_P G.1 vwCl (mtw G (z3 α β γ) 0 α) s.heap := by rw [mz0]; exact hP
      refine o_cVi (q0 := 3 + 18 * 0 + (0)) (ci := 7) [.int (nI r), .int 0] [] ⟨hx, hb, hml, hown, hts⟩ (m_X5_pitchesWith l G (z3 α β γ) (show 0 < 2 by decide) α nS nO nH hz r (nI r) (rfl) (by omega) false) (cwV 2 hts gX6_streetTold_X5_pitchesWith rfl rfl rfl (by decide +kernel) ⟨Nat.le_of_ble_eq_true rfl, Nat.le_of_ble_eq_true rfl⟩) hK hN hP rfl rfl (mt_S G (z3 α β γ) (show 0 < 2 by decide) α) rfl hl.1 rfl (Nat.le_of_ble_eq_true rfl) dX6_streetTold_126 ⟨Nat.zero_le _, Nat.zero_le _⟩ ?_
      have hP : va_P G.1 vwCl (mw G (z3 α β γ)) s.heap := by rw [mz0] at hP; exact hP
      exact o_iretR hx hb hr hlocks dX6_streetTold_129 (by first | rfl | exact absurd (by decide) c118 | exact absurd c118 (by decide))
    · refine lv_iconst (v := 1) hx hb dX6_streetTold_121 (by decide) ?_
      refine lv_goto (tgt := 126) hx hb dX6_streetTold_122 (by decide) ?_
      have hP : va_P G.1 vwCl (mtw G (z3 α β γ) 0 α) s.heap := by rw [mz0]; exact hP
      refine o_cVi (q0 := 3 + 18 * 0 + (0)) (ci := 7) [.int (nI r), .int 1] [] ⟨hx, hb, hml, hown, hts⟩ (m_X5_pitchesWith l G (z3 α β γ) (show 0 < 2 by decide) α nS nO nH hz r (nI r) (rfl) (by omega) true) (cwV 2 hts gX6_streetTold_X5_pitchesWith rfl rfl rfl (by decide +kernel) ⟨Nat.le_of_ble_eq_true rfl, Nat.le_of_ble_eq_true rfl⟩) hK hN hP rfl rfl (mt_S G (z3 α β γ) (show 0 < 2 by decide) α) rfl hl.1 rfl (Nat.le_of_ble_eq_true rfl) dX6_streetTold_126 ⟨Nat.zero_le _, Nat.zero_le _⟩ ?_
      have hP : va_P G.1 vwCl (mw G (z3 α β γ)) s.heap := by rw [mz0] at hP; exact hP
      exact o_iretR hx hb hr hlocks dX6_streetTold_129 (by first | rfl | exact absurd (by decide) c118 | exact absurd c118 (by decide))
  · refine lv_tableOut (tgt := 110) hx hb dX6_streetTold_1 (by decide) (by decide) ?_
    refine lv_aload_n hx hb dX6_streetTold_110 rfl (lv_at hl 0 rfl) ?_
    refine va_get (D := G.1) (ci := 8) (v := .ref (ms G 0 0)) (C := RX6) (T := TX6) (N := 6) hx hb hts (fun w9 h9 => List.mem_cons_of_mem _ (List.mem_append_left _ (List.mem_append_right _ (h9)))) hown hK hP (0) (mw_M G (z3 α β γ)) rfl 4 (by decide) (hts (.fieldLink RX6 21 "OrganCensusModel" "s" "LOrganCensusModel$State;") (List.mem_of_getElem? (i := 1) rfl)) (fun _ h9 => h9) rfl dX6_streetTold_111 ?_
    refine lv_iload_n hx hb dX6_streetTold_114 rfl (lv_at hl 1 rfl) ?_
    refine lv_iload_n hx hb dX6_streetTold_115 rfl (lv_at hl 2 rfl) ?_
    refine lv_bipush (v := 6) hx hb dX6_streetTold_116 (by decide) ?_
    refine lv_icmp_ne (tgt := 125) hx hb dX6_streetTold_118 (by decide) (fun c118 => ?_) (fun c118 => ?_)
    · refine lv_iconst (v := 0) hx hb dX6_streetTold_125 (by decide) ?_
      have hP : va_P G.1 vwCl (mtw G (z3 α β γ) 0 α) s.heap := by rw [mz0]; exact hP
      refine o_cVi (q0 := 3 + 18 * 0 + (0)) (ci := 7) [.int (nI r), .int 0] [] ⟨hx, hb, hml, hown, hts⟩ (m_X5_pitchesWith l G (z3 α β γ) (show 0 < 2 by decide) α nS nO nH hz r (nI r) (rfl) (by omega) false) (cwV 2 hts gX6_streetTold_X5_pitchesWith rfl rfl rfl (by decide +kernel) ⟨Nat.le_of_ble_eq_true rfl, Nat.le_of_ble_eq_true rfl⟩) hK hN hP rfl rfl (mt_S G (z3 α β γ) (show 0 < 2 by decide) α) rfl hl.1 rfl (Nat.le_of_ble_eq_true rfl) dX6_streetTold_126 ⟨Nat.zero_le _, Nat.zero_le _⟩ ?_
      have hP : va_P G.1 vwCl (mw G (z3 α β γ)) s.heap := by rw [mz0] at hP; exact hP
      exact o_iretR hx hb hr hlocks dX6_streetTold_129 (by first | rfl | exact absurd (by decide) c118 | exact absurd c118 (by decide))
    · refine lv_iconst (v := 1) hx hb dX6_streetTold_121 (by decide) ?_
      refine lv_goto (tgt := 126) hx hb dX6_streetTold_122 (by decide) ?_
      have hP : va_P G.1 vwCl (mtw G (z3 α β γ) 0 α) s.heap := by rw [mz0]; exact hP
      refine o_cVi (q0 := 3 + 18 * 0 + (0)) (ci := 7) [.int (nI r), .int 1] [] ⟨hx, hb, hml, hown, hts⟩ (m_X5_pitchesWith l G (z3 α β γ) (show 0 < 2 by decide) α nS nO nH hz r (nI r) (rfl) (by omega) true) (cwV 2 hts gX6_streetTold_X5_pitchesWith rfl rfl rfl (by decide +kernel) ⟨Nat.le_of_ble_eq_true rfl, Nat.le_of_ble_eq_true rfl⟩) hK hN hP rfl rfl (mt_S G (z3 α β γ) (show 0 < 2 by decide) α) rfl hl.1 rfl (Nat.le_of_ble_eq_true rfl) dX6_streetTold_126 ⟨Nat.zero_le _, Nat.zero_le _⟩ ?_
      have hP : va_P G.1 vwCl (mw G (z3 α β γ)) s.heap := by rw [mz0] at hP; exact hP
      exact o_iretR hx hb hr hlocks dX6_streetTold_129 (by first | rfl | exact absurd (by decide) c118 | exact absurd c118 (by decide))
set_option maxHeartbeats 4000000 in
set_option maxRecDepth 100000 in
theorem m_X6_street (l : Launch) (G : oG) (hI : wl_I G.2.1 39) (α β γ : oT) (nS : Nat) (nO : Nat) (nH : Nat) (hz : qOK α nS nO nH) (x : Int32) (y : Int32) : Met l yX6_street wsX6_street ({ frames := 6, cells := 0, slots := 0, locals := 141 } : Room) (va_Pc [.ref (G.2.1 0), .int x, .int y] (PW G (mw G (z3 α β γ)))) (oQ (some (.int (if cStreet nS x y = 0 then qStT α γ nO nH (oN x) (oN y) else 0))) (fun H9 => va_P G.1 vwCl (mw G (z3 α β (mT γ (cStreet nS x y)))) H9) (mA G)) 0 0 (mA G) := by
  refine o_body (cc := cX6_street) (by decide +kernel) rfl (Nat.le_of_ble_eq_true rfl) ?_
  intro p e s m below meth c ls hx hb hml hr hlocks hown hts hP hK hN hl
  have hown : s.vm.findClass RX6 = some m.cls := hown
  have hl : lv_has ls 3 [(0, .ref (G.2.1 0)), (1, .int x), (2, .int y)] := hl
  have hS : va_S (mA G) s.heap s.heap [] := va_S.rf
  obtain ⟨hz1, hz2, hz3, hz4, hz5, hz6, hz7, hz8⟩ := id hz
  refine lv_aload_n hx hb dX6_street_0 rfl (lv_at hl 0 rfl) ?_
  refine lv_iconst (v := 0) hx hb dX6_street_1 (by decide) ?_
  refine va_put (D := G.1) (ci := 8) (v := .int 0) (ty := .int) (C := RX6) (T := TX6) (N := 6) hx hb hts (fun w9 h9 => List.mem_cons_of_mem _ (List.mem_append_left _ (List.mem_append_right _ (h9)))) tyX6 tyX6_ok nmX6 hown hK hP (mw_D G _ hI) hS (0) (mw_M G (z3 α β γ)) rfl 0 (by decide) (hts (.fieldLink RX6 28 "OrganCensusModel" "thrown" "I") (List.mem_of_getElem? (i := 1) rfl)) (fun _ h9 => h9) rfl (by decide +kernel) rfl rfl (Nat.le_of_ble_eq_true rfl) dX6_street_2 (fun H locs hP hD hS => ?_)
  have hP : va_P G.1 vwCl (mw G (z3 α β (su γ 41 0 0 0))) H := by rw [← (mw_zP (a := α) (b := β) (c := γ) (τ' := su γ 41 0 0 0) (mw_uM0 G (z3 α β γ) 0))]; exact hP
  clear hD
  refine lv_aload_n hx hb dX6_street_5 rfl (lv_at hl 0 rfl) ?_
  refine lv_iload_n hx hb dX6_street_6 rfl (lv_at hl 1 rfl) ?_
  refine o_cVi (q0 := 0) (ci := 8) [.int x] [] ⟨hx, hb, hml, hown, hts⟩ (m_X6_isStreet l G α β (su γ 41 0 0 0) nS nO nH hz x) (cwV 1 hts gX6_street_X6_isStreet rfl rfl rfl (by decide +kernel) ⟨Nat.le_of_ble_eq_true rfl, Nat.le_of_ble_eq_true rfl⟩) hK hN hP rfl rfl (mw_M G (z3 α β (su γ 41 0 0 0))) rfl hl.1 rfl (Nat.le_of_ble_eq_true rfl) dX6_street_7 ⟨Nat.zero_le _, Nat.zero_le _⟩ ?_
  refine lv_if_eq (tgt := 32) hx hb dX6_street_10 (by decide) (fun c10 => ?_) (fun c10 => ?_)
  · have c10 := bI_eq.mp c10
    refine lv_aload_n hx hb dX6_street_32 rfl (lv_at hl 0 rfl) ?_
    refine lv_iconst (v := 1) hx hb dX6_street_33 (by decide) ?_
    refine o_cVmi (q0 := 0) (ci := 8) [.int 1] [] ⟨hx, hb, hml, hown, hts⟩ (m_X6_no l G hI α β (su γ 41 0 0 0) 1) (cwV 1 hts gX6_street_X6_no rfl rfl rfl (by decide +kernel) ⟨Nat.le_of_ble_eq_true rfl, Nat.le_of_ble_eq_true rfl⟩) hK hN hP hS rfl rfl (mw_M G (z3 α β (su γ 41 0 0 0))) rfl hl.1 rfl (Nat.le_of_ble_eq_true rfl) dX6_street_34 ⟨Nat.zero_le _, Nat.zero_le _⟩ (fun H locs hP hS => ?_)
    exact o_iretM hx hb hr hlocks hS dX6_street_37 (by have hP9 := hP; simp (decide := true) only [cStreet, mT, c10, Bool.true_and, Bool.and_true, Bool.false_and, Bool.and_false, Bool.false_eq_true, if_true, if_false, reduceIte, not_true_eq_false, not_false_eq_true, and_true, and_false, true_and, false_and, Nat.reduceEqDiff, reduceCtorEq]; first | exact hP9 | (rw [su_su] at hP9; exact hP9)) (by simp (decide := true) only [cStreet, mT, c10, Bool.true_and, Bool.and_true, Bool.false_and, Bool.and_false, Bool.false_eq_true, if_true, if_false, reduceIte, not_true_eq_false, not_false_eq_true, and_true, and_false, true_and, false_and, Nat.reduceEqDiff, reduceCtorEq]; try rfl)
  · have c10 := bI_ne.mp c10
    have n10 := oIn_lt (by omega) c10
    refine lv_iload_n hx hb dX6_street_13 rfl (lv_at hl 2 rfl) ?_
    refine lv_iconst (v := 0) hx hb dX6_street_14 (by decide) ?_
    refine lv_bipush (v := 7) hx hb dX6_street_15 (by decide) ?_
    refine o_cSi [.int y, .int 0, .int 7] [] ⟨hx, hb, hml, hown, hts⟩ (m_X6_isIn l G (mw G (z3 α β (su γ 41 0 0 0))) y 0 7) (va_cwS 3 hts gX6_street_X6_isIn rfl rfl rfl (by decide +kernel) ⟨Nat.le_of_ble_eq_true rfl, Nat.le_of_ble_eq_true rfl⟩) hK hN hP rfl hl.1 rfl (Nat.le_of_ble_eq_true rfl) dX6_street_17 ⟨Nat.zero_le _, Nat.zero_le _⟩ ?_
    refine lv_if_eq (tgt := 32) hx hb dX6_street_20 (by decide) (fun c20 => ?_) (fun c20 => ?_)
    · have c20 := bI_eq.mp c20
      refine lv_aload_n hx hb dX6_street_32 rfl (lv_at hl 0 rfl) ?_
      refine lv_iconst (v := 1) hx hb dX6_street_33 (by decide) ?_
      refine o_cVmi (q0 := 0) (ci := 8) [.int 1] [] ⟨hx, hb, hml, hown, hts⟩ (m_X6_no l G hI α β (su γ 41 0 0 0) 1) (cwV 1 hts gX6_street_X6_no rfl rfl rfl (by decide +kernel) ⟨Nat.le_of_ble_eq_true rfl, Nat.le_of_ble_eq_true rfl⟩) hK hN hP hS rfl rfl (mw_M G (z3 α β (su γ 41 0 0 0))) rfl hl.1 rfl (Nat.le_of_ble_eq_true rfl) dX6_street_34 ⟨Nat.zero_le _, Nat.zero_le _⟩ (fun H locs hP hS => ?_)
      exact o_iretM hx hb hr hlocks hS dX6_street_37 (by have hP9 := hP; simp (decide := true) only [cStreet, mT, c10, c20, Bool.true_and, Bool.and_true, Bool.false_and, Bool.and_false, Bool.false_eq_true, if_true, if_false, reduceIte, not_true_eq_false, not_false_eq_true, and_true, and_false, true_and, false_and, Nat.reduceEqDiff, reduceCtorEq]; first | exact hP9 | (rw [su_su] at hP9; exact hP9)) (by simp (decide := true) only [cStreet, mT, c10, c20, Bool.true_and, Bool.and_true, Bool.false_and, Bool.and_false, Bool.false_eq_true, if_true, if_false, reduceIte, not_true_eq_false, not_false_eq_true, and_true, and_false, true_and, false_and, Nat.reduceEqDiff, reduceCtorEq]; try rfl)
    · have c20 := bI_ne.mp c20
      have n20 := oRg_le (n := 7) (by decide) c20
      refine lv_aload_n hx hb dX6_street_23 rfl (lv_at hl 0 rfl) ?_
      refine lv_iload_n hx hb dX6_street_24 rfl (lv_at hl 1 rfl) ?_
      refine lv_iload_n hx hb dX6_street_25 rfl (lv_at hl 2 rfl) ?_
      refine o_cVi (q0 := 0) (ci := 8) [.int x, .int y] [] ⟨hx, hb, hml, hown, hts⟩ (m_X6_streetTold l G α β (su γ 41 0 0 0) nS nO nH hz (oN x) x ((oIn_x c10)) (by omega) (oN y) y ((oRg_x c20)) (by omega)) (cwV 2 hts gX6_street_X6_streetTold rfl rfl rfl (by decide +kernel) ⟨Nat.le_of_ble_eq_true rfl, Nat.le_of_ble_eq_true rfl⟩) hK hN hP rfl rfl (mw_M G (z3 α β (su γ 41 0 0 0))) rfl hl.1 rfl (Nat.le_of_ble_eq_true rfl) dX6_street_26 ⟨Nat.zero_le _, Nat.zero_le _⟩ ?_
      refine lv_goto (tgt := 37) hx hb dX6_street_29 (by decide) ?_
      exact o_iretM hx hb hr hlocks hS dX6_street_37 (by have hP9 := hP; simp (decide := true) only [cStreet, mT, c10, c20, Bool.true_and, Bool.and_true, Bool.false_and, Bool.and_false, Bool.false_eq_true, if_true, if_false, reduceIte, not_true_eq_false, not_false_eq_true, and_true, and_false, true_and, false_and, Nat.reduceEqDiff, reduceCtorEq]; first | exact hP9 | (rw [su_su] at hP9; exact hP9)) (by simp (decide := true) only [cStreet, mT, c10, c20, Bool.true_and, Bool.and_true, Bool.false_and, Bool.and_false, Bool.false_eq_true, if_true, if_false, reduceIte, not_true_eq_false, not_false_eq_true, and_true, and_false, true_and, false_and, Nat.reduceEqDiff, reduceCtorEq]; try rfl)
set_option maxHeartbeats 4000000 in
set_option maxRecDepth 100000 in
theorem m_X6_ear (l : Launch) (G : oG) (hI : wl_I G.2.1 39) (α β γ : oT) (nS : Nat) (nO : Nat) (nH : Nat) (hz : qOK α nS nO nH) (x : Int32) (y : Int32) (bb : Bool) : Met l yX6_ear wsX6_ear ({ frames := 2, cells := 0, slots := 0, locals := 43 } : Room) (va_Pc [.ref (G.2.1 0), .int x, .int y, .int (bI bb)] (PW G (mw G (z3 α β γ)))) (oQ (some (.int (if cEar nS x y = 0 then (if bb = true then α 2 0 (6 * oN x + oN y) else α 3 0 (6 * oN x + oN y)) else 0))) (fun H9 => va_P G.1 vwCl (mw G (z3 α β (mT γ (cEar nS x y)))) H9) (mA G)) 0 0 (mA G) := by
  refine o_body (cc := cX6_ear) (by decide +kernel) rfl (Nat.le_of_ble_eq_true rfl) ?_
  intro p e s m below meth c ls hx hb hml hr hlocks hown hts hP hK hN hl
  have hown : s.vm.findClass RX6 = some m.cls := hown
  have hl : lv_has ls 4 [(0, .ref (G.2.1 0)), (1, .int x), (2, .int y), (3, .int (bI bb))] := hl
  have hS : va_S (mA G) s.heap s.heap [] := va_S.rf
  obtain ⟨hz1, hz2, hz3, hz4, hz5, hz6, hz7, hz8⟩ := id hz
  refine lv_aload_n hx hb dX6_ear_0 rfl (lv_at hl 0 rfl) ?_
  refine lv_iconst (v := 0) hx hb dX6_ear_1 (by decide) ?_
  refine va_put (D := G.1) (ci := 8) (v := .int 0) (ty := .int) (C := RX6) (T := TX6) (N := 6) hx hb hts (fun w9 h9 => List.mem_cons_of_mem _ (List.mem_append_left _ (List.mem_append_right _ (h9)))) tyX6 tyX6_ok nmX6 hown hK hP (mw_D G _ hI) hS (0) (mw_M G (z3 α β γ)) rfl 0 (by decide) (hts (.fieldLink RX6 28 "OrganCensusModel" "thrown" "I") (List.mem_of_getElem? (i := 1) rfl)) (fun _ h9 => h9) rfl (by decide +kernel) rfl rfl (Nat.le_of_ble_eq_true rfl) dX6_ear_2 (fun H locs hP hD hS => ?_)
  have hP : va_P G.1 vwCl (mw G (z3 α β (su γ 41 0 0 0))) H := by rw [← (mw_zP (a := α) (b := β) (c := γ) (τ' := su γ 41 0 0 0) (mw_uM0 G (z3 α β γ) 0))]; exact hP
  clear hD
  refine lv_aload_n hx hb dX6_ear_5 rfl (lv_at hl 0 rfl) ?_
  refine lv_iload_n hx hb dX6_ear_6 rfl (lv_at hl 1 rfl) ?_
  refine o_cVi (q0 := 0) (ci := 8) [.int x] [] ⟨hx, hb, hml, hown, hts⟩ (m_X6_isStreet l G α β (su γ 41 0 0 0) nS nO nH hz x) (cwV 1 hts gX6_ear_X6_isStreet rfl rfl rfl (by decide +kernel) ⟨Nat.le_of_ble_eq_true rfl, Nat.le_of_ble_eq_true rfl⟩) hK hN hP rfl rfl (mw_M G (z3 α β (su γ 41 0 0 0))) rfl hl.1 rfl (Nat.le_of_ble_eq_true rfl) dX6_ear_7 ⟨Nat.zero_le _, Nat.zero_le _⟩ ?_
  refine lv_if_eq (tgt := 22) hx hb dX6_ear_10 (by decide) (fun c10 => ?_) (fun c10 => ?_)
  · have c10 := bI_eq.mp c10
    refine lv_aload_n hx hb dX6_ear_22 rfl (lv_at hl 0 rfl) ?_
    refine lv_iconst (v := 1) hx hb dX6_ear_23 (by decide) ?_
    refine o_cVmi (q0 := 0) (ci := 8) [.int 1] [] ⟨hx, hb, hml, hown, hts⟩ (m_X6_no l G hI α β (su γ 41 0 0 0) 1) (cwV 1 hts gX6_ear_X6_no rfl rfl rfl (by decide +kernel) ⟨Nat.le_of_ble_eq_true rfl, Nat.le_of_ble_eq_true rfl⟩) hK hN hP hS rfl rfl (mw_M G (z3 α β (su γ 41 0 0 0))) rfl hl.1 rfl (Nat.le_of_ble_eq_true rfl) dX6_ear_24 ⟨Nat.zero_le _, Nat.zero_le _⟩ (fun H locs hP hS => ?_)
    exact o_iretM hx hb hr hlocks hS dX6_ear_27 (by have hP9 := hP; simp (decide := true) only [cEar, mT, c10, Bool.true_and, Bool.and_true, Bool.false_and, Bool.and_false, Bool.false_eq_true, if_true, if_false, reduceIte, not_true_eq_false, not_false_eq_true, and_true, and_false, true_and, false_and, Nat.reduceEqDiff, reduceCtorEq]; first | exact hP9 | (rw [su_su] at hP9; exact hP9)) (by simp (decide := true) only [cEar, mT, c10, Bool.true_and, Bool.and_true, Bool.false_and, Bool.and_false, Bool.false_eq_true, if_true, if_false, reduceIte, not_true_eq_false, not_false_eq_true, and_true, and_false, true_and, false_and, Nat.reduceEqDiff, reduceCtorEq]; try rfl)
  · have c10 := bI_ne.mp c10
    have n10 := oIn_lt (by omega) c10
    refine lv_iload_n hx hb dX6_ear_13 rfl (lv_at hl 2 rfl) ?_
    refine lv_iconst (v := 0) hx hb dX6_ear_14 (by decide) ?_
    refine lv_iconst (v := 5) hx hb dX6_ear_15 (by decide) ?_
    refine o_cSi [.int y, .int 0, .int 5] [] ⟨hx, hb, hml, hown, hts⟩ (m_X6_isIn l G (mw G (z3 α β (su γ 41 0 0 0))) y 0 5) (va_cwS 3 hts gX6_ear_X6_isIn rfl rfl rfl (by decide +kernel) ⟨Nat.le_of_ble_eq_true rfl, Nat.le_of_ble_eq_true rfl⟩) hK hN hP rfl hl.1 rfl (Nat.le_of_ble_eq_true rfl) dX6_ear_16 ⟨Nat.zero_le _, Nat.zero_le _⟩ ?_
    refine lv_if_ne (tgt := 28) hx hb dX6_ear_19 (by decide) (fun c19 => ?_) (fun c19 => ?_)
    · have c19 := bI_ne.mp c19
      have n19 := oRg_le (n := 5) (by decide) c19
      refine lv_iload_n hx hb dX6_ear_28 rfl (lv_at hl 3 rfl) ?_
      refine lv_if_eq (tgt := 49) hx hb dX6_ear_29 (by decide) (fun c29 => ?_) (fun c29 => ?_)
      · have c29 := bI_eq.mp c29
        refine lv_aload_n hx hb dX6_ear_49 rfl (lv_at hl 0 rfl) ?_
        refine va_get (D := G.1) (ci := 8) (v := .ref (ms G 0 0)) (C := RX6) (T := TX6) (N := 6) hx hb hts (fun w9 h9 => List.mem_cons_of_mem _ (List.mem_append_left _ (List.mem_append_right _ (h9)))) hown hK hP (0) (mw_M G (z3 α β (su γ 41 0 0 0))) rfl 4 (by decide) (hts (.fieldLink RX6 21 "OrganCensusModel" "s" "LOrganCensusModel$State;") (List.mem_of_getElem? (i := 2) rfl)) (fun _ h9 => h9) rfl dX6_ear_50 ?_
        refine va_getN (D := G.1) (ci := 7) (v := .ref (ms G 0 3)) (C := RX5) (T := TX5) (N := 21) hx hb hts (fun w9 h9 => List.mem_cons_of_mem _ (List.mem_append_right _ (h9))) hown hK hP (3 + 18 * 0 + (0)) (mv_S G (z3 α β (su γ 41 0 0 0)) (show 0 < 2 by decide)) rfl 4 (by decide) (va_Nw.use rfl (hN.1 (RX6, 79, RX5, "weary", "[I", RX6) (List.mem_of_getElem? (i := 7) rfl))) (fun _ h9 => h9) rfl dX6_ear_53 ?_
        refine lv_bipush (v := 6) hx hb dX6_ear_56 (by decide) ?_
        refine lv_iload_n hx hb dX6_ear_58 rfl (lv_at hl 1 rfl) ?_
        refine lv_imul hx hb dX6_ear_59 ?_
        refine lv_iload_n hx hb dX6_ear_60 rfl (lv_at hl 2 rfl) ?_
        refine lv_iadd hx hb dX6_ear_61 ?_
        refine o_iald (k := (6 * (oN x)) + (oN y)) hx hb hK hP (3 + 18 * 0 + (3)) 0 (mv_A3 G (z3 α β (su γ 41 0 0 0)) (show 0 < 2 by decide)) rfl (o_nadd (o_nmul (by decide) (oIn_x c10)) (oRg_x c19)) (by omega) (by decide) dX6_ear_62 ?_
        exact o_iretM hx hb hr hlocks hS dX6_ear_63 (by have hP9 := hP; simp (decide := true) only [cEar, mT, c10, c19, c29, Bool.true_and, Bool.and_true, Bool.false_and, Bool.and_false, Bool.false_eq_true, if_true, if_false, reduceIte, not_true_eq_false, not_false_eq_true, and_true, and_false, true_and, false_and, Nat.reduceEqDiff, reduceCtorEq]; first | exact hP9 | (rw [su_su] at hP9; exact hP9)) (by simp (decide := true) only [cEar, mT, c10, c19, c29, Bool.true_and, Bool.and_true, Bool.false_and, Bool.and_false, Bool.false_eq_true, if_true, if_false, reduceIte, not_true_eq_false, not_false_eq_true, and_true, and_false, true_and, false_and, Nat.reduceEqDiff, reduceCtorEq]; try rfl)
      · have c29 := bI_ne.mp c29
        refine lv_aload_n hx hb dX6_ear_32 rfl (lv_at hl 0 rfl) ?_
        refine va_get (D := G.1) (ci := 8) (v := .ref (ms G 0 0)) (C := RX6) (T := TX6) (N := 6) hx hb hts (fun w9 h9 => List.mem_cons_of_mem _ (List.mem_append_left _ (List.mem_append_right _ (h9)))) hown hK hP (0) (mw_M G (z3 α β (su γ 41 0 0 0))) rfl 4 (by decide) (hts (.fieldLink RX6 21 "OrganCensusModel" "s" "LOrganCensusModel$State;") (List.mem_of_getElem? (i := 2) rfl)) (fun _ h9 => h9) rfl dX6_ear_33 ?_
        refine va_getN (D := G.1) (ci := 7) (v := .ref (ms G 0 2)) (C := RX5) (T := TX5) (N := 21) hx hb hts (fun w9 h9 => List.mem_cons_of_mem _ (List.mem_append_right _ (h9))) hown hK hP (3 + 18 * 0 + (0)) (mv_S G (z3 α β (su γ 41 0 0 0)) (show 0 < 2 by decide)) rfl 3 (by decide) (va_Nw.use rfl (hN.1 (RX6, 53, RX5, "taste", "[I", RX6) (List.mem_of_getElem? (i := 3) rfl))) (fun _ h9 => h9) rfl dX6_ear_36 ?_
        refine lv_bipush (v := 6) hx hb dX6_ear_39 (by decide) ?_
        refine lv_iload_n hx hb dX6_ear_41 rfl (lv_at hl 1 rfl) ?_
        refine lv_imul hx hb dX6_ear_42 ?_
        refine lv_iload_n hx hb dX6_ear_43 rfl (lv_at hl 2 rfl) ?_
        refine lv_iadd hx hb dX6_ear_44 ?_
        refine o_iald (k := (6 * (oN x)) + (oN y)) hx hb hK hP (3 + 18 * 0 + (2)) 0 (mv_A2 G (z3 α β (su γ 41 0 0 0)) (show 0 < 2 by decide)) rfl (o_nadd (o_nmul (by decide) (oIn_x c10)) (oRg_x c19)) (by omega) (by decide) dX6_ear_45 ?_
        refine lv_goto (tgt := 63) hx hb dX6_ear_46 (by decide) ?_
        exact o_iretM hx hb hr hlocks hS dX6_ear_63 (by have hP9 := hP; simp (decide := true) only [cEar, mT, c10, c19, c29, Bool.true_and, Bool.and_true, Bool.false_and, Bool.and_false, Bool.false_eq_true, if_true, if_false, reduceIte, not_true_eq_false, not_false_eq_true, and_true, and_false, true_and, false_and, Nat.reduceEqDiff, reduceCtorEq]; first | exact hP9 | (rw [su_su] at hP9; exact hP9)) (by simp (decide := true) only [cEar, mT, c10, c19, c29, Bool.true_and, Bool.and_true, Bool.false_and, Bool.and_false, Bool.false_eq_true, if_true, if_false, reduceIte, not_true_eq_false, not_false_eq_true, and_true, and_false, true_and, false_and, Nat.reduceEqDiff, reduceCtorEq]; try rfl)
    · have c19 := bI_eq.mp c19
      refine lv_aload_n hx hb dX6_ear_22 rfl (lv_at hl 0 rfl) ?_
      refine lv_iconst (v := 1) hx hb dX6_ear_23 (by decide) ?_
      refine o_cVmi (q0 := 0) (ci := 8) [.int 1] [] ⟨hx, hb, hml, hown, hts⟩ (m_X6_no l G hI α β (su γ 41 0 0 0) 1) (cwV 1 hts gX6_ear_X6_no rfl rfl rfl (by decide +kernel) ⟨Nat.le_of_ble_eq_true rfl, Nat.le_of_ble_eq_true rfl⟩) hK hN hP hS rfl rfl (mw_M G (z3 α β (su γ 41 0 0 0))) rfl hl.1 rfl (Nat.le_of_ble_eq_true rfl) dX6_ear_24 ⟨Nat.zero_le _, Nat.zero_le _⟩ (fun H locs hP hS => ?_)
      exact o_iretM hx hb hr hlocks hS dX6_ear_27 (by have hP9 := hP; simp (decide := true) only [cEar, mT, c10, c19, Bool.true_and, Bool.and_true, Bool.false_and, Bool.and_false, Bool.false_eq_true, if_true, if_false, reduceIte, not_true_eq_false, not_false_eq_true, and_true, and_false, true_and, false_and, Nat.reduceEqDiff, reduceCtorEq]; first | exact hP9 | (rw [su_su] at hP9; exact hP9)) (by simp (decide := true) only [cEar, mT, c10, c19, Bool.true_and, Bool.and_true, Bool.false_and, Bool.and_false, Bool.false_eq_true, if_true, if_false, reduceIte, not_true_eq_false, not_false_eq_true, and_true, and_false, true_and, false_and, Nat.reduceEqDiff, reduceCtorEq]; try rfl)
set_option maxHeartbeats 4000000 in
set_option maxRecDepth 100000 in
theorem m_X6_addOrgan (l : Launch) (G : oG) (hI : wl_I G.2.1 39) (α β γ : oT) (nS : Nat) (nO : Nat) (nH : Nat) (hz : qOK α nS nO nH) (x : Int32) (y : Int32) (z : Int32) : Met l yX6_addOrgan wsX6_addOrgan ({ frames := 3, cells := 0, slots := 0, locals := 65 } : Room) (va_Pc [.ref (G.2.1 0), .int x, .int y, .int z] (PW G (mw G (z3 α β γ)))) (oQ (some (.int (if cAdd nS nO (qNp α) x y z = 0 then nI nO else 0))) (fun H9 => va_P G.1 vwCl (mw G (z3 (if cAdd nS nO (qNp α) x y z = 0 then mAdd α nO x y z else α) β (mT γ (cAdd nS nO (qNp α) x y z)))) H9) (mA G)) 0 0 (mA G) := by
  refine o_body (cc := cX6_addOrgan) (by decide +kernel) rfl (Nat.le_of_ble_eq_true rfl) ?_
  intro p e s m below meth c ls hx hb hml hr hlocks hown hts hP hK hN hl
  have hown : s.vm.findClass RX6 = some m.cls := hown
  have hl : lv_has ls 4 [(0, .ref (G.2.1 0)), (1, .int x), (2, .int y), (3, .int z)] := hl
  have hS : va_S (mA G) s.heap s.heap [] := va_S.rf
  obtain ⟨hz1, hz2, hz3, hz4, hz5, hz6, hz7, hz8⟩ := id hz
  refine lv_aload_n hx hb dX6_addOrgan_0 rfl (lv_at hl 0 rfl) ?_
  refine lv_iconst (v := 0) hx hb dX6_addOrgan_1 (by decide) ?_
  refine va_put (D := G.1) (ci := 8) (v := .int 0) (ty := .int) (C := RX6) (T := TX6) (N := 6) hx hb hts (fun w9 h9 => List.mem_cons_of_mem _ (List.mem_append_left _ (List.mem_append_right _ (h9)))) tyX6 tyX6_ok nmX6 hown hK hP (mw_D G _ hI) hS (0) (mw_M G (z3 α β γ)) rfl 0 (by decide) (hts (.fieldLink RX6 28 "OrganCensusModel" "thrown" "I") (List.mem_of_getElem? (i := 1) rfl)) (fun _ h9 => h9) rfl (by decide +kernel) rfl rfl (Nat.le_of_ble_eq_true rfl) dX6_addOrgan_2 (fun H locs hP hD hS => ?_)
  have hP : va_P G.1 vwCl (mw G (z3 α β (su γ 41 0 0 0))) H := by rw [← (mw_zP (a := α) (b := β) (c := γ) (τ' := su γ 41 0 0 0) (mw_uM0 G (z3 α β γ) 0))]; exact hP
  clear hD
  refine lv_aload_n hx hb dX6_addOrgan_5 rfl (lv_at hl 0 rfl) ?_
  refine lv_iload_n hx hb dX6_addOrgan_6 rfl (lv_at hl 1 rfl) ?_
  refine lv_iload_n hx hb dX6_addOrgan_7 rfl (lv_at hl 2 rfl) ?_
  refine o_cVi (q0 := 0) (ci := 8) [.int x, .int y] [] ⟨hx, hb, hml, hown, hts⟩ (m_X6_isPitch l G α β (su γ 41 0 0 0) nS nO nH hz x y) (cwV 2 hts gX6_addOrgan_X6_isPitch rfl rfl rfl (by decide +kernel) ⟨Nat.le_of_ble_eq_true rfl, Nat.le_of_ble_eq_true rfl⟩) hK hN hP rfl rfl (mw_M G (z3 α β (su γ 41 0 0 0))) rfl hl.1 rfl (Nat.le_of_ble_eq_true rfl) dX6_addOrgan_8 ⟨Nat.zero_le _, Nat.zero_le _⟩ ?_
  refine lv_if_ne (tgt := 20) hx hb dX6_addOrgan_11 (by decide) (fun c11 => ?_) (fun c11 => ?_)
  · have c11 := bI_ne.mp c11
    have c111 := ((Bool.and_eq_true _ _).mp c11).1
    have c112 := ((Bool.and_eq_true _ _).mp c11).2
    have n111 := oIn_lt (by omega) c111
    have hp112 := (hz.2.2.2.2.2.2.1 (oN x) (by omega)).2
    have n112 := oIn_lt (by omega) c112
    refine lv_iload_n hx hb dX6_addOrgan_20 rfl (lv_at hl 3 rfl) ?_
    refine lv_iconst (v := 1) hx hb dX6_addOrgan_21 (by decide) ?_
    refine lv_bipush (v := 9) hx hb dX6_addOrgan_22 (by decide) ?_
    refine o_cSi [.int z, .int 1, .int 9] [] ⟨hx, hb, hml, hown, hts⟩ (m_X6_isIn l G (mw G (z3 α β (su γ 41 0 0 0))) z 1 9) (va_cwS 3 hts gX6_addOrgan_X6_isIn rfl rfl rfl (by decide +kernel) ⟨Nat.le_of_ble_eq_true rfl, Nat.le_of_ble_eq_true rfl⟩) hK hN hP rfl hl.1 rfl (Nat.le_of_ble_eq_true rfl) dX6_addOrgan_24 ⟨Nat.zero_le _, Nat.zero_le _⟩ ?_
    refine lv_if_ne (tgt := 36) hx hb dX6_addOrgan_27 (by decide) (fun c27 => ?_) (fun c27 => ?_)
    · have c27 := bI_ne.mp c27
      refine lv_aload_n hx hb dX6_addOrgan_36 rfl (lv_at hl 0 rfl) ?_
      refine va_get (D := G.1) (ci := 8) (v := .ref (ms G 0 0)) (C := RX6) (T := TX6) (N := 6) hx hb hts (fun w9 h9 => List.mem_cons_of_mem _ (List.mem_append_left _ (List.mem_append_right _ (h9)))) hown hK hP (0) (mw_M G (z3 α β (su γ 41 0 0 0))) rfl 4 (by decide) (hts (.fieldLink RX6 21 "OrganCensusModel" "s" "LOrganCensusModel$State;") (List.mem_of_getElem? (i := 2) rfl)) (fun _ h9 => h9) rfl dX6_addOrgan_37 ?_
      refine va_getN (D := G.1) (ci := 7) (v := .int (α 40 0 2)) (C := RX5) (T := TX5) (N := 21) hx hb hts (fun w9 h9 => List.mem_cons_of_mem _ (List.mem_append_right _ (h9))) hown hK hP (3 + 18 * 0 + (0)) (mv_S G (z3 α β (su γ 41 0 0 0)) (show 0 < 2 by decide)) rfl 7 (by decide) (va_Nw.use rfl (hN.1 (RX6, 39, RX5, "organs", "I", RX6) (List.mem_of_getElem? (i := 1) rfl))) (fun _ h9 => h9) rfl dX6_addOrgan_40 ?_
      refine lv_bipush (v := 8) hx hb dX6_addOrgan_43 (by decide) ?_
      refine lv_icmp_ne (tgt := 54) hx hb dX6_addOrgan_45 (by decide) (fun c45 => ?_) (fun c45 => ?_)
      · have n45 := (mt (o_neq (a := nO) (b := 8) hz.2.2.1 (by decide) (by omega) (by omega)).mpr) c45
        refine lv_aload_n hx hb dX6_addOrgan_54 rfl (lv_at hl 0 rfl) ?_
        refine va_get (D := G.1) (ci := 8) (v := .ref (ms G 0 0)) (C := RX6) (T := TX6) (N := 6) hx hb hts (fun w9 h9 => List.mem_cons_of_mem _ (List.mem_append_left _ (List.mem_append_right _ (h9)))) hown hK hP (0) (mw_M G (z3 α β (su γ 41 0 0 0))) rfl 4 (by decide) (hts (.fieldLink RX6 21 "OrganCensusModel" "s" "LOrganCensusModel$State;") (List.mem_of_getElem? (i := 2) rfl)) (fun _ h9 => h9) rfl dX6_addOrgan_55 ?_
        refine va_getN (D := G.1) (ci := 7) (v := .ref (ms G 0 6)) (C := RX5) (T := TX5) (N := 21) hx hb hts (fun w9 h9 => List.mem_cons_of_mem _ (List.mem_append_right _ (h9))) hown hK hP (3 + 18 * 0 + (0)) (mv_S G (z3 α β (su γ 41 0 0 0)) (show 0 < 2 by decide)) rfl 8 (by decide) (va_Nw.use rfl (hN.1 (RX6, 86, RX5, "at", "[I", RX6) (List.mem_of_getElem? (i := 8) rfl))) (fun _ h9 => h9) rfl dX6_addOrgan_58 ?_
        refine lv_aload_n hx hb dX6_addOrgan_61 rfl (lv_at hl 0 rfl) ?_
        refine va_get (D := G.1) (ci := 8) (v := .ref (ms G 0 0)) (C := RX6) (T := TX6) (N := 6) hx hb hts (fun w9 h9 => List.mem_cons_of_mem _ (List.mem_append_left _ (List.mem_append_right _ (h9)))) hown hK hP (0) (mw_M G (z3 α β (su γ 41 0 0 0))) rfl 4 (by decide) (hts (.fieldLink RX6 21 "OrganCensusModel" "s" "LOrganCensusModel$State;") (List.mem_of_getElem? (i := 2) rfl)) (fun _ h9 => h9) rfl dX6_addOrgan_62 ?_
        refine va_getN (D := G.1) (ci := 7) (v := .int (α 40 0 2)) (C := RX5) (T := TX5) (N := 21) hx hb hts (fun w9 h9 => List.mem_cons_of_mem _ (List.mem_append_right _ (h9))) hown hK hP (3 + 18 * 0 + (0)) (mv_S G (z3 α β (su γ 41 0 0 0)) (show 0 < 2 by decide)) rfl 7 (by decide) (va_Nw.use rfl (hN.1 (RX6, 39, RX5, "organs", "I", RX6) (List.mem_of_getElem? (i := 1) rfl))) (fun _ h9 => h9) rfl dX6_addOrgan_65 ?_
        refine lv_iload_n hx hb dX6_addOrgan_68 rfl (lv_at hl 1 rfl) ?_
        refine o_iast (k := nO) hx hb hK hP (mw_D G _ hI) hS (3 + 18 * 0 + (6)) 0 (mv_A6 G (z3 α β (su γ 41 0 0 0)) (show 0 < 2 by decide)) rfl hz.2.2.1 (by omega) (by decide) dX6_addOrgan_69 (fun H locs hP hD hS => ?_)
        have hP : va_P G.1 vwCl (mw G (z3 (su α 6 0 nO x) β (su γ 41 0 0 0))) H := by rw [← (mu_z0 (a := α) (b := β) (c := (su γ 41 0 0 0)) (τ' := su α 6 0 nO x) (mvu_A6 G (z3 α β (su γ 41 0 0 0)) (show 0 < 2 by decide) nO x))]; exact hP
        clear hD
        have hz69_0 : qOK (su α 6 0 nO x) nS nO nH := hz.of (qKp.su _ _ _ _ (by decide))
        refine lv_aload_n hx hb dX6_addOrgan_70 rfl (lv_at hl 0 rfl) ?_
        refine va_get (D := G.1) (ci := 8) (v := .ref (ms G 0 0)) (C := RX6) (T := TX6) (N := 6) hx hb hts (fun w9 h9 => List.mem_cons_of_mem _ (List.mem_append_left _ (List.mem_append_right _ (h9)))) hown hK hP (0) (mw_M G (z3 (su α 6 0 nO x) β (su γ 41 0 0 0))) rfl 4 (by decide) (hts (.fieldLink RX6 21 "OrganCensusModel" "s" "LOrganCensusModel$State;") (List.mem_of_getElem? (i := 2) rfl)) (fun _ h9 => h9) rfl dX6_addOrgan_71 ?_
        refine va_getN (D := G.1) (ci := 7) (v := .ref (ms G 0 7)) (C := RX5) (T := TX5) (N := 21) hx hb hts (fun w9 h9 => List.mem_cons_of_mem _ (List.mem_append_right _ (h9))) hown hK hP (3 + 18 * 0 + (0)) (mv_S G (z3 (su α 6 0 nO x) β (su γ 41 0 0 0)) (show 0 < 2 by decide)) rfl 9 (by decide) (va_Nw.use rfl (hN.1 (RX6, 89, RX5, "pitch", "[I", RX6) (List.mem_of_getElem? (i := 9) rfl))) (fun _ h9 => h9) rfl dX6_addOrgan_74 ?_
        refine lv_aload_n hx hb dX6_addOrgan_77 rfl (lv_at hl 0 rfl) ?_
        refine va_get (D := G.1) (ci := 8) (v := .ref (ms G 0 0)) (C := RX6) (T := TX6) (N := 6) hx hb hts (fun w9 h9 => List.mem_cons_of_mem _ (List.mem_append_left _ (List.mem_append_right _ (h9)))) hown hK hP (0) (mw_M G (z3 (su α 6 0 nO x) β (su γ 41 0 0 0))) rfl 4 (by decide) (hts (.fieldLink RX6 21 "OrganCensusModel" "s" "LOrganCensusModel$State;") (List.mem_of_getElem? (i := 2) rfl)) (fun _ h9 => h9) rfl dX6_addOrgan_78 ?_
        refine va_getN (D := G.1) (ci := 7) (v := .int ((su α 6 0 nO x) 40 0 2)) (C := RX5) (T := TX5) (N := 21) hx hb hts (fun w9 h9 => List.mem_cons_of_mem _ (List.mem_append_right _ (h9))) hown hK hP (3 + 18 * 0 + (0)) (mv_S G (z3 (su α 6 0 nO x) β (su γ 41 0 0 0)) (show 0 < 2 by decide)) rfl 7 (by decide) (va_Nw.use rfl (hN.1 (RX6, 39, RX5, "organs", "I", RX6) (List.mem_of_getElem? (i := 1) rfl))) (fun _ h9 => h9) rfl dX6_addOrgan_81 ?_
        refine lv_iload_n hx hb dX6_addOrgan_84 rfl (lv_at hl 2 rfl) ?_
        refine o_iast (k := nO) hx hb hK hP (mw_D G _ hI) hS (3 + 18 * 0 + (7)) 0 (mv_A7 G (z3 (su α 6 0 nO x) β (su γ 41 0 0 0)) (show 0 < 2 by decide)) rfl hz69_0.2.2.1 (by omega) (by decide) dX6_addOrgan_85 (fun H locs hP hD hS => ?_)
        have hP : va_P G.1 vwCl (mw G (z3 (su (su α 6 0 nO x) 7 0 nO y) β (su γ 41 0 0 0))) H := by rw [← (mu_z0 (a := (su α 6 0 nO x)) (b := β) (c := (su γ 41 0 0 0)) (τ' := su (su α 6 0 nO x) 7 0 nO y) (mvu_A7 G (z3 (su α 6 0 nO x) β (su γ 41 0 0 0)) (show 0 < 2 by decide) nO y))]; exact hP
        clear hD
        have hz85_0 : qOK (su (su α 6 0 nO x) 7 0 nO y) nS nO nH := hz69_0.of (qKp.su _ _ _ _ (by decide))
        refine lv_aload_n hx hb dX6_addOrgan_86 rfl (lv_at hl 0 rfl) ?_
        refine va_get (D := G.1) (ci := 8) (v := .ref (ms G 0 0)) (C := RX6) (T := TX6) (N := 6) hx hb hts (fun w9 h9 => List.mem_cons_of_mem _ (List.mem_append_left _ (List.mem_append_right _ (h9)))) hown hK hP (0) (mw_M G (z3 (su (su α 6 0 nO x) 7 0 nO y) β (su γ 41 0 0 0))) rfl 4 (by decide) (hts (.fieldLink RX6 21 "OrganCensusModel" "s" "LOrganCensusModel$State;") (List.mem_of_getElem? (i := 2) rfl)) (fun _ h9 => h9) rfl dX6_addOrgan_87 ?_
        refine va_getN (D := G.1) (ci := 7) (v := .ref (ms G 0 9)) (C := RX5) (T := TX5) (N := 21) hx hb hts (fun w9 h9 => List.mem_cons_of_mem _ (List.mem_append_right _ (h9))) hown hK hP (3 + 18 * 0 + (0)) (mv_S G (z3 (su (su α 6 0 nO x) 7 0 nO y) β (su γ 41 0 0 0)) (show 0 < 2 by decide)) rfl 11 (by decide) (va_Nw.use rfl (hN.1 (RX6, 92, RX5, "loud", "[I", RX6) (List.mem_of_getElem? (i := 10) rfl))) (fun _ h9 => h9) rfl dX6_addOrgan_90 ?_
        refine lv_aload_n hx hb dX6_addOrgan_93 rfl (lv_at hl 0 rfl) ?_
        refine va_get (D := G.1) (ci := 8) (v := .ref (ms G 0 0)) (C := RX6) (T := TX6) (N := 6) hx hb hts (fun w9 h9 => List.mem_cons_of_mem _ (List.mem_append_left _ (List.mem_append_right _ (h9)))) hown hK hP (0) (mw_M G (z3 (su (su α 6 0 nO x) 7 0 nO y) β (su γ 41 0 0 0))) rfl 4 (by decide) (hts (.fieldLink RX6 21 "OrganCensusModel" "s" "LOrganCensusModel$State;") (List.mem_of_getElem? (i := 2) rfl)) (fun _ h9 => h9) rfl dX6_addOrgan_94 ?_
        refine va_getN (D := G.1) (ci := 7) (v := .int ((su (su α 6 0 nO x) 7 0 nO y) 40 0 2)) (C := RX5) (T := TX5) (N := 21) hx hb hts (fun w9 h9 => List.mem_cons_of_mem _ (List.mem_append_right _ (h9))) hown hK hP (3 + 18 * 0 + (0)) (mv_S G (z3 (su (su α 6 0 nO x) 7 0 nO y) β (su γ 41 0 0 0)) (show 0 < 2 by decide)) rfl 7 (by decide) (va_Nw.use rfl (hN.1 (RX6, 39, RX5, "organs", "I", RX6) (List.mem_of_getElem? (i := 1) rfl))) (fun _ h9 => h9) rfl dX6_addOrgan_97 ?_
        refine lv_iload_n hx hb dX6_addOrgan_100 rfl (lv_at hl 3 rfl) ?_
        refine o_iast (k := nO) hx hb hK hP (mw_D G _ hI) hS (3 + 18 * 0 + (9)) 0 (mv_A9 G (z3 (su (su α 6 0 nO x) 7 0 nO y) β (su γ 41 0 0 0)) (show 0 < 2 by decide)) rfl hz85_0.2.2.1 (by omega) (by decide) dX6_addOrgan_101 (fun H locs hP hD hS => ?_)
        have hP : va_P G.1 vwCl (mw G (z3 (su (su (su α 6 0 nO x) 7 0 nO y) 9 0 nO z) β (su γ 41 0 0 0))) H := by rw [← (mu_z0 (a := (su (su α 6 0 nO x) 7 0 nO y)) (b := β) (c := (su γ 41 0 0 0)) (τ' := su (su (su α 6 0 nO x) 7 0 nO y) 9 0 nO z) (mvu_A9 G (z3 (su (su α 6 0 nO x) 7 0 nO y) β (su γ 41 0 0 0)) (show 0 < 2 by decide) nO z))]; exact hP
        clear hD
        have hz101_0 : qOK (su (su (su α 6 0 nO x) 7 0 nO y) 9 0 nO z) nS nO nH := hz85_0.of (qKp.su _ _ _ _ (by decide))
        refine lv_aload_n hx hb dX6_addOrgan_102 rfl (lv_at hl 0 rfl) ?_
        refine va_get (D := G.1) (ci := 8) (v := .ref (ms G 0 0)) (C := RX6) (T := TX6) (N := 6) hx hb hts (fun w9 h9 => List.mem_cons_of_mem _ (List.mem_append_left _ (List.mem_append_right _ (h9)))) hown hK hP (0) (mw_M G (z3 (su (su (su α 6 0 nO x) 7 0 nO y) 9 0 nO z) β (su γ 41 0 0 0))) rfl 4 (by decide) (hts (.fieldLink RX6 21 "OrganCensusModel" "s" "LOrganCensusModel$State;") (List.mem_of_getElem? (i := 2) rfl)) (fun _ h9 => h9) rfl dX6_addOrgan_103 ?_
        refine va_getN (D := G.1) (ci := 7) (v := .ref (ms G 0 11)) (C := RX5) (T := TX5) (N := 21) hx hb hts (fun w9 h9 => List.mem_cons_of_mem _ (List.mem_append_right _ (h9))) hown hK hP (3 + 18 * 0 + (0)) (mv_S G (z3 (su (su (su α 6 0 nO x) 7 0 nO y) 9 0 nO z) β (su γ 41 0 0 0)) (show 0 < 2 by decide)) rfl 13 (by decide) (va_Nw.use rfl (hN.1 (RX6, 95, RX5, "barrel", "[I", RX6) (List.mem_of_getElem? (i := 11) rfl))) (fun _ h9 => h9) rfl dX6_addOrgan_106 ?_
        refine lv_aload_n hx hb dX6_addOrgan_109 rfl (lv_at hl 0 rfl) ?_
        refine va_get (D := G.1) (ci := 8) (v := .ref (ms G 0 0)) (C := RX6) (T := TX6) (N := 6) hx hb hts (fun w9 h9 => List.mem_cons_of_mem _ (List.mem_append_left _ (List.mem_append_right _ (h9)))) hown hK hP (0) (mw_M G (z3 (su (su (su α 6 0 nO x) 7 0 nO y) 9 0 nO z) β (su γ 41 0 0 0))) rfl 4 (by decide) (hts (.fieldLink RX6 21 "OrganCensusModel" "s" "LOrganCensusModel$State;") (List.mem_of_getElem? (i := 2) rfl)) (fun _ h9 => h9) rfl dX6_addOrgan_110 ?_
        refine va_getN (D := G.1) (ci := 7) (v := .int ((su (su (su α 6 0 nO x) 7 0 nO y) 9 0 nO z) 40 0 2)) (C := RX5) (T := TX5) (N := 21) hx hb hts (fun w9 h9 => List.mem_cons_of_mem _ (List.mem_append_right _ (h9))) hown hK hP (3 + 18 * 0 + (0)) (mv_S G (z3 (su (su (su α 6 0 nO x) 7 0 nO y) 9 0 nO z) β (su γ 41 0 0 0)) (show 0 < 2 by decide)) rfl 7 (by decide) (va_Nw.use rfl (hN.1 (RX6, 39, RX5, "organs", "I", RX6) (List.mem_of_getElem? (i := 1) rfl))) (fun _ h9 => h9) rfl dX6_addOrgan_113 ?_
        refine lv_iconst (v := 1) hx hb dX6_addOrgan_116 (by decide) ?_
        refine o_iast (k := nO) hx hb hK hP (mw_D G _ hI) hS (3 + 18 * 0 + (11)) 0 (mv_A11 G (z3 (su (su (su α 6 0 nO x) 7 0 nO y) 9 0 nO z) β (su γ 41 0 0 0)) (show 0 < 2 by decide)) rfl hz101_0.2.2.1 (by omega) (by decide) dX6_addOrgan_117 (fun H locs hP hD hS => ?_)
        have hP : va_P G.1 vwCl (mw G (z3 (su (su (su (su α 6 0 nO x) 7 0 nO y) 9 0 nO z) 11 0 nO 1) β (su γ 41 0 0 0))) H := by rw [← (mu_z0 (a := (su (su (su α 6 0 nO x) 7 0 nO y) 9 0 nO z)) (b := β) (c := (su γ 41 0 0 0)) (τ' := su (su (su (su α 6 0 nO x) 7 0 nO y) 9 0 nO z) 11 0 nO 1) (mvu_A11 G (z3 (su (su (su α 6 0 nO x) 7 0 nO y) 9 0 nO z) β (su γ 41 0 0 0)) (show 0 < 2 by decide) nO 1))]; exact hP
        clear hD
        refine lv_aload_n hx hb dX6_addOrgan_118 rfl (lv_at hl 0 rfl) ?_
        refine va_get (D := G.1) (ci := 8) (v := .ref (ms G 0 0)) (C := RX6) (T := TX6) (N := 6) hx hb hts (fun w9 h9 => List.mem_cons_of_mem _ (List.mem_append_left _ (List.mem_append_right _ (h9)))) hown hK hP (0) (mw_M G (z3 (su (su (su (su α 6 0 nO x) 7 0 nO y) 9 0 nO z) 11 0 nO 1) β (su γ 41 0 0 0))) rfl 4 (by decide) (hts (.fieldLink RX6 21 "OrganCensusModel" "s" "LOrganCensusModel$State;") (List.mem_of_getElem? (i := 2) rfl)) (fun _ h9 => h9) rfl dX6_addOrgan_119 ?_
        refine lv_dup hx hb dX6_addOrgan_122 rfl ?_
        refine va_getN (D := G.1) (ci := 7) (v := .int ((su (su (su (su α 6 0 nO x) 7 0 nO y) 9 0 nO z) 11 0 nO 1) 40 0 2)) (C := RX5) (T := TX5) (N := 21) hx hb hts (fun w9 h9 => List.mem_cons_of_mem _ (List.mem_append_right _ (h9))) hown hK hP (3 + 18 * 0 + (0)) (mv_S G (z3 (su (su (su (su α 6 0 nO x) 7 0 nO y) 9 0 nO z) 11 0 nO 1) β (su γ 41 0 0 0)) (show 0 < 2 by decide)) rfl 7 (by decide) (va_Nw.use rfl (hN.1 (RX6, 39, RX5, "organs", "I", RX6) (List.mem_of_getElem? (i := 1) rfl))) (fun _ h9 => h9) rfl dX6_addOrgan_123 ?_
        refine lv_iconst (v := 1) hx hb dX6_addOrgan_126 (by decide) ?_
        refine lv_iadd hx hb dX6_addOrgan_127 ?_
        rw [show (su (su (su (su α 6 0 nO x) 7 0 nO y) 9 0 nO z) 11 0 nO 1) 40 0 2 + 1 = nI (nO + 1) from by rw [su_k _ _ _ _ (by decide), hz101_0.2.2.1, nI_1]]
        refine va_putN (D := G.1) (ci := 7) (v := .int (nI (nO + 1))) (ty := .int) (C := RX5) (T := TX5) (N := 21) hx hb hts (fun w9 h9 => List.mem_cons_of_mem _ (List.mem_append_right _ (h9))) tyX5 tyX5_ok nmX5 hown hK hP (mw_D G _ hI) hS (3 + 18 * 0 + (0)) (mv_S G (z3 (su (su (su (su α 6 0 nO x) 7 0 nO y) 9 0 nO z) 11 0 nO 1) β (su γ 41 0 0 0)) (show 0 < 2 by decide)) rfl 7 (by decide) (va_Nw.use rfl (hN.1 (RX6, 39, RX5, "organs", "I", RX6) (List.mem_of_getElem? (i := 1) rfl))) (fun _ h9 => h9) rfl (by decide +kernel) rfl rfl (Nat.le_of_ble_eq_true rfl) dX6_addOrgan_128 (fun H locs hP hD hS => ?_)
        have hP : va_P G.1 vwCl (mw G (z3 (su (su (su (su (su α 6 0 nO x) 7 0 nO y) 9 0 nO z) 11 0 nO 1) 40 0 2 (nI (nO + 1))) β (su γ 41 0 0 0))) H := by rw [← (mu_z0 (a := (su (su (su (su α 6 0 nO x) 7 0 nO y) 9 0 nO z) 11 0 nO 1)) (b := β) (c := (su γ 41 0 0 0)) (τ' := su (su (su (su (su α 6 0 nO x) 7 0 nO y) 9 0 nO z) 11 0 nO 1) 40 0 2 (nI (nO + 1))) (mvu_S2 G (z3 (su (su (su (su α 6 0 nO x) 7 0 nO y) 9 0 nO z) 11 0 nO 1) β (su γ 41 0 0 0)) (show 0 < 2 by decide) (nI (nO + 1))))]; exact hP
        clear hD
        refine lv_aload_n hx hb dX6_addOrgan_131 rfl (lv_at hl 0 rfl) ?_
        refine va_get (D := G.1) (ci := 8) (v := .ref (ms G 0 0)) (C := RX6) (T := TX6) (N := 6) hx hb hts (fun w9 h9 => List.mem_cons_of_mem _ (List.mem_append_left _ (List.mem_append_right _ (h9)))) hown hK hP (0) (mw_M G (z3 (su (su (su (su (su α 6 0 nO x) 7 0 nO y) 9 0 nO z) 11 0 nO 1) 40 0 2 (nI (nO + 1))) β (su γ 41 0 0 0))) rfl 4 (by decide) (hts (.fieldLink RX6 21 "OrganCensusModel" "s" "LOrganCensusModel$State;") (List.mem_of_getElem? (i := 2) rfl)) (fun _ h9 => h9) rfl dX6_addOrgan_132 ?_
        refine va_getN (D := G.1) (ci := 7) (v := .int ((su (su (su (su (su α 6 0 nO x) 7 0 nO y) 9 0 nO z) 11 0 nO 1) 40 0 2 (nI (nO + 1))) 40 0 2)) (C := RX5) (T := TX5) (N := 21) hx hb hts (fun w9 h9 => List.mem_cons_of_mem _ (List.mem_append_right _ (h9))) hown hK hP (3 + 18 * 0 + (0)) (mv_S G (z3 (su (su (su (su (su α 6 0 nO x) 7 0 nO y) 9 0 nO z) 11 0 nO 1) 40 0 2 (nI (nO + 1))) β (su γ 41 0 0 0)) (show 0 < 2 by decide)) rfl 7 (by decide) (va_Nw.use rfl (hN.1 (RX6, 39, RX5, "organs", "I", RX6) (List.mem_of_getElem? (i := 1) rfl))) (fun _ h9 => h9) rfl dX6_addOrgan_135 ?_
        refine lv_iconst (v := 1) hx hb dX6_addOrgan_138 (by decide) ?_
        refine lv_isub hx hb dX6_addOrgan_139 ?_
        exact o_iretM hx hb hr hlocks hS dX6_addOrgan_140 (by have hP9 := hP; simp (decide := true) only [cAdd, mT, c11, c27, c45, n45, Bool.true_and, Bool.and_true, Bool.false_and, Bool.and_false, Bool.false_eq_true, if_true, if_false, reduceIte, not_true_eq_false, not_false_eq_true, and_true, and_false, true_and, false_and, Nat.reduceEqDiff, reduceCtorEq]; first | exact hP9 | (rw [su_su] at hP9; exact hP9)) (by first | (rw [su_s, nI_pred]; simp (decide := true) only [cAdd, c11, c27, c45, n45, Bool.true_and, Bool.and_true, Bool.false_and, Bool.and_false, Bool.false_eq_true, if_true, if_false, reduceIte, not_true_eq_false, not_false_eq_true, and_true, and_false, true_and, false_and, Nat.reduceEqDiff, reduceCtorEq]) | (simp (decide := true) only [cAdd, c11, c27, c45, n45, Bool.true_and, Bool.and_true, Bool.false_and, Bool.and_false, Bool.false_eq_true, if_true, if_false, reduceIte, not_true_eq_false, not_false_eq_true, and_true, and_false, true_and, false_and, Nat.reduceEqDiff, reduceCtorEq]))
      · have n45 := (o_neq (a := nO) (b := 8) hz.2.2.1 (by decide) (by omega) (by omega)).mp c45
        refine lv_aload_n hx hb dX6_addOrgan_48 rfl (lv_at hl 0 rfl) ?_
        refine lv_iconst (v := 3) hx hb dX6_addOrgan_49 (by decide) ?_
        refine o_cVmi (q0 := 0) (ci := 8) [.int 3] [] ⟨hx, hb, hml, hown, hts⟩ (m_X6_no l G hI α β (su γ 41 0 0 0) 3) (cwV 1 hts gX6_addOrgan_X6_no rfl rfl rfl (by decide +kernel) ⟨Nat.le_of_ble_eq_true rfl, Nat.le_of_ble_eq_true rfl⟩) hK hN hP hS rfl rfl (mw_M G (z3 α β (su γ 41 0 0 0))) rfl hl.1 rfl (Nat.le_of_ble_eq_true rfl) dX6_addOrgan_50 ⟨Nat.zero_le _, Nat.zero_le _⟩ (fun H locs hP hS => ?_)
        exact o_iretM hx hb hr hlocks hS dX6_addOrgan_53 (by have hP9 := hP; simp (decide := true) only [cAdd, mT, c11, c27, c45, n45, Bool.true_and, Bool.and_true, Bool.false_and, Bool.and_false, Bool.false_eq_true, if_true, if_false, reduceIte, not_true_eq_false, not_false_eq_true, and_true, and_false, true_and, false_and, Nat.reduceEqDiff, reduceCtorEq]; first | exact hP9 | (rw [su_su] at hP9; exact hP9)) (by first | (rw [su_s, nI_pred]; simp (decide := true) only [cAdd, c11, c27, c45, n45, Bool.true_and, Bool.and_true, Bool.false_and, Bool.and_false, Bool.false_eq_true, if_true, if_false, reduceIte, not_true_eq_false, not_false_eq_true, and_true, and_false, true_and, false_and, Nat.reduceEqDiff, reduceCtorEq]) | (simp (decide := true) only [cAdd, c11, c27, c45, n45, Bool.true_and, Bool.and_true, Bool.false_and, Bool.and_false, Bool.false_eq_true, if_true, if_false, reduceIte, not_true_eq_false, not_false_eq_true, and_true, and_false, true_and, false_and, Nat.reduceEqDiff, reduceCtorEq]))
    · have c27 := bI_eq.mp c27
      refine lv_aload_n hx hb dX6_addOrgan_30 rfl (lv_at hl 0 rfl) ?_
      refine lv_iconst (v := 2) hx hb dX6_addOrgan_31 (by decide) ?_
      refine o_cVmi (q0 := 0) (ci := 8) [.int 2] [] ⟨hx, hb, hml, hown, hts⟩ (m_X6_no l G hI α β (su γ 41 0 0 0) 2) (cwV 1 hts gX6_addOrgan_X6_no rfl rfl rfl (by decide +kernel) ⟨Nat.le_of_ble_eq_true rfl, Nat.le_of_ble_eq_true rfl⟩) hK hN hP hS rfl rfl (mw_M G (z3 α β (su γ 41 0 0 0))) rfl hl.1 rfl (Nat.le_of_ble_eq_true rfl) dX6_addOrgan_32 ⟨Nat.zero_le _, Nat.zero_le _⟩ (fun H locs hP hS => ?_)
      exact o_iretM hx hb hr hlocks hS dX6_addOrgan_35 (by have hP9 := hP; simp (decide := true) only [cAdd, mT, c11, c27, Bool.true_and, Bool.and_true, Bool.false_and, Bool.and_false, Bool.false_eq_true, if_true, if_false, reduceIte, not_true_eq_false, not_false_eq_true, and_true, and_false, true_and, false_and, Nat.reduceEqDiff, reduceCtorEq]; first | exact hP9 | (rw [su_su] at hP9; exact hP9)) (by first | (rw [su_s, nI_pred]; simp (decide := true) only [cAdd, c11, c27, Bool.true_and, Bool.and_true, Bool.false_and, Bool.and_false, Bool.false_eq_true, if_true, if_false, reduceIte, not_true_eq_false, not_false_eq_true, and_true, and_false, true_and, false_and, Nat.reduceEqDiff, reduceCtorEq]) | (simp (decide := true) only [cAdd, c11, c27, Bool.true_and, Bool.and_true, Bool.false_and, Bool.and_false, Bool.false_eq_true, if_true, if_false, reduceIte, not_true_eq_false, not_false_eq_true, and_true, and_false, true_and, false_and, Nat.reduceEqDiff, reduceCtorEq]))
  · have c11 := bI_eq.mp c11
    refine lv_aload_n hx hb dX6_addOrgan_14 rfl (lv_at hl 0 rfl) ?_
    refine lv_iconst (v := 1) hx hb dX6_addOrgan_15 (by decide) ?_
    refine o_cVmi (q0 := 0) (ci := 8) [.int 1] [] ⟨hx, hb, hml, hown, hts⟩ (m_X6_no l G hI α β (su γ 41 0 0 0) 1) (cwV 1 hts gX6_addOrgan_X6_no rfl rfl rfl (by decide +kernel) ⟨Nat.le_of_ble_eq_true rfl, Nat.le_of_ble_eq_true rfl⟩) hK hN hP hS rfl rfl (mw_M G (z3 α β (su γ 41 0 0 0))) rfl hl.1 rfl (Nat.le_of_ble_eq_true rfl) dX6_addOrgan_16 ⟨Nat.zero_le _, Nat.zero_le _⟩ (fun H locs hP hS => ?_)
    exact o_iretM hx hb hr hlocks hS dX6_addOrgan_19 (by have hP9 := hP; simp (decide := true) only [cAdd, mT, c11, Bool.true_and, Bool.and_true, Bool.false_and, Bool.and_false, Bool.false_eq_true, if_true, if_false, reduceIte, not_true_eq_false, not_false_eq_true, and_true, and_false, true_and, false_and, Nat.reduceEqDiff, reduceCtorEq]; first | exact hP9 | (rw [su_su] at hP9; exact hP9)) (by first | (rw [su_s, nI_pred]; simp (decide := true) only [cAdd, c11, Bool.true_and, Bool.and_true, Bool.false_and, Bool.and_false, Bool.false_eq_true, if_true, if_false, reduceIte, not_true_eq_false, not_false_eq_true, and_true, and_false, true_and, false_and, Nat.reduceEqDiff, reduceCtorEq]) | (simp (decide := true) only [cAdd, c11, Bool.true_and, Bool.and_true, Bool.false_and, Bool.and_false, Bool.false_eq_true, if_true, if_false, reduceIte, not_true_eq_false, not_false_eq_true, and_true, and_false, true_and, false_and, Nat.reduceEqDiff, reduceCtorEq]))
set_option maxHeartbeats 4000000 in
set_option maxRecDepth 100000 in
theorem m_X6_banished (l : Launch) (G : oG) (hI : wl_I G.2.1 39) (α β γ : oT) (nS : Nat) (nO : Nat) (nH : Nat) (hz : qOK α nS nO nH) (x : Int32) (y : Int32) : Met l yX6_banished wsX6_banished ({ frames := 2, cells := 0, slots := 0, locals := 43 } : Room) (va_Pc [.ref (G.2.1 0), .int x, .int y] (PW G (mw G (z3 α β γ)))) (oQ (some (.int (if cBan nS nO x y = 0 then α 15 0 (6 * oN x + oN y) else 0))) (fun H9 => va_P G.1 vwCl (mw G (z3 α β (mT γ (cBan nS nO x y)))) H9) (mA G)) 0 0 (mA G) := by
  refine o_body (cc := cX6_banished) (by decide +kernel) rfl (Nat.le_of_ble_eq_true rfl) ?_
  intro p e s m below meth c ls hx hb hml hr hlocks hown hts hP hK hN hl
  have hown : s.vm.findClass RX6 = some m.cls := hown
  have hl : lv_has ls 3 [(0, .ref (G.2.1 0)), (1, .int x), (2, .int y)] := hl
  have hS : va_S (mA G) s.heap s.heap [] := va_S.rf
  obtain ⟨hz1, hz2, hz3, hz4, hz5, hz6, hz7, hz8⟩ := id hz
  refine lv_aload_n hx hb dX6_banished_0 rfl (lv_at hl 0 rfl) ?_
  refine lv_iconst (v := 0) hx hb dX6_banished_1 (by decide) ?_
  refine va_put (D := G.1) (ci := 8) (v := .int 0) (ty := .int) (C := RX6) (T := TX6) (N := 6) hx hb hts (fun w9 h9 => List.mem_cons_of_mem _ (List.mem_append_left _ (List.mem_append_right _ (h9)))) tyX6 tyX6_ok nmX6 hown hK hP (mw_D G _ hI) hS (0) (mw_M G (z3 α β γ)) rfl 0 (by decide) (hts (.fieldLink RX6 28 "OrganCensusModel" "thrown" "I") (List.mem_of_getElem? (i := 1) rfl)) (fun _ h9 => h9) rfl (by decide +kernel) rfl rfl (Nat.le_of_ble_eq_true rfl) dX6_banished_2 (fun H locs hP hD hS => ?_)
  have hP : va_P G.1 vwCl (mw G (z3 α β (su γ 41 0 0 0))) H := by rw [← (mw_zP (a := α) (b := β) (c := γ) (τ' := su γ 41 0 0 0) (mw_uM0 G (z3 α β γ) 0))]; exact hP
  clear hD
  refine lv_aload_n hx hb dX6_banished_5 rfl (lv_at hl 0 rfl) ?_
  refine lv_iload_n hx hb dX6_banished_6 rfl (lv_at hl 1 rfl) ?_
  refine o_cVi (q0 := 0) (ci := 8) [.int x] [] ⟨hx, hb, hml, hown, hts⟩ (m_X6_isOrgan l G α β (su γ 41 0 0 0) nS nO nH hz x) (cwV 1 hts gX6_banished_X6_isOrgan rfl rfl rfl (by decide +kernel) ⟨Nat.le_of_ble_eq_true rfl, Nat.le_of_ble_eq_true rfl⟩) hK hN hP rfl rfl (mw_M G (z3 α β (su γ 41 0 0 0))) rfl hl.1 rfl (Nat.le_of_ble_eq_true rfl) dX6_banished_7 ⟨Nat.zero_le _, Nat.zero_le _⟩ ?_
  refine lv_if_eq (tgt := 38) hx hb dX6_banished_10 (by decide) (fun c10 => ?_) (fun c10 => ?_)
  · have c10 := bI_eq.mp c10
    refine lv_aload_n hx hb dX6_banished_38 rfl (lv_at hl 0 rfl) ?_
    refine lv_iconst (v := 1) hx hb dX6_banished_39 (by decide) ?_
    refine o_cVmi (q0 := 0) (ci := 8) [.int 1] [] ⟨hx, hb, hml, hown, hts⟩ (m_X6_no l G hI α β (su γ 41 0 0 0) 1) (cwV 1 hts gX6_banished_X6_no rfl rfl rfl (by decide +kernel) ⟨Nat.le_of_ble_eq_true rfl, Nat.le_of_ble_eq_true rfl⟩) hK hN hP hS rfl rfl (mw_M G (z3 α β (su γ 41 0 0 0))) rfl hl.1 rfl (Nat.le_of_ble_eq_true rfl) dX6_banished_40 ⟨Nat.zero_le _, Nat.zero_le _⟩ (fun H locs hP hS => ?_)
    exact o_iretM hx hb hr hlocks hS dX6_banished_43 (by have hP9 := hP; simp (decide := true) only [cBan, mT, c10, Bool.true_and, Bool.and_true, Bool.false_and, Bool.and_false, Bool.false_eq_true, if_true, if_false, reduceIte, not_true_eq_false, not_false_eq_true, and_true, and_false, true_and, false_and, Nat.reduceEqDiff, reduceCtorEq]; first | exact hP9 | (rw [su_su] at hP9; exact hP9)) (by simp (decide := true) only [cBan, mT, c10, Bool.true_and, Bool.and_true, Bool.false_and, Bool.and_false, Bool.false_eq_true, if_true, if_false, reduceIte, not_true_eq_false, not_false_eq_true, and_true, and_false, true_and, false_and, Nat.reduceEqDiff, reduceCtorEq]; try rfl)
  · have c10 := bI_ne.mp c10
    have n10 := oIn_lt (by omega) c10
    refine lv_aload_n hx hb dX6_banished_13 rfl (lv_at hl 0 rfl) ?_
    refine lv_iload_n hx hb dX6_banished_14 rfl (lv_at hl 2 rfl) ?_
    refine o_cVi (q0 := 0) (ci := 8) [.int y] [] ⟨hx, hb, hml, hown, hts⟩ (m_X6_isStreet l G α β (su γ 41 0 0 0) nS nO nH hz y) (cwV 1 hts gX6_banished_X6_isStreet rfl rfl rfl (by decide +kernel) ⟨Nat.le_of_ble_eq_true rfl, Nat.le_of_ble_eq_true rfl⟩) hK hN hP rfl rfl (mw_M G (z3 α β (su γ 41 0 0 0))) rfl hl.1 rfl (Nat.le_of_ble_eq_true rfl) dX6_banished_15 ⟨Nat.zero_le _, Nat.zero_le _⟩ ?_
    refine lv_if_eq (tgt := 38) hx hb dX6_banished_18 (by decide) (fun c18 => ?_) (fun c18 => ?_)
    · have c18 := bI_eq.mp c18
      refine lv_aload_n hx hb dX6_banished_38 rfl (lv_at hl 0 rfl) ?_
      refine lv_iconst (v := 1) hx hb dX6_banished_39 (by decide) ?_
      refine o_cVmi (q0 := 0) (ci := 8) [.int 1] [] ⟨hx, hb, hml, hown, hts⟩ (m_X6_no l G hI α β (su γ 41 0 0 0) 1) (cwV 1 hts gX6_banished_X6_no rfl rfl rfl (by decide +kernel) ⟨Nat.le_of_ble_eq_true rfl, Nat.le_of_ble_eq_true rfl⟩) hK hN hP hS rfl rfl (mw_M G (z3 α β (su γ 41 0 0 0))) rfl hl.1 rfl (Nat.le_of_ble_eq_true rfl) dX6_banished_40 ⟨Nat.zero_le _, Nat.zero_le _⟩ (fun H locs hP hS => ?_)
      exact o_iretM hx hb hr hlocks hS dX6_banished_43 (by have hP9 := hP; simp (decide := true) only [cBan, mT, c10, c18, Bool.true_and, Bool.and_true, Bool.false_and, Bool.and_false, Bool.false_eq_true, if_true, if_false, reduceIte, not_true_eq_false, not_false_eq_true, and_true, and_false, true_and, false_and, Nat.reduceEqDiff, reduceCtorEq]; first | exact hP9 | (rw [su_su] at hP9; exact hP9)) (by simp (decide := true) only [cBan, mT, c10, c18, Bool.true_and, Bool.and_true, Bool.false_and, Bool.and_false, Bool.false_eq_true, if_true, if_false, reduceIte, not_true_eq_false, not_false_eq_true, and_true, and_false, true_and, false_and, Nat.reduceEqDiff, reduceCtorEq]; try rfl)
    · have c18 := bI_ne.mp c18
      have n18 := oIn_lt (by omega) c18
      refine lv_aload_n hx hb dX6_banished_21 rfl (lv_at hl 0 rfl) ?_
      refine va_get (D := G.1) (ci := 8) (v := .ref (ms G 0 0)) (C := RX6) (T := TX6) (N := 6) hx hb hts (fun w9 h9 => List.mem_cons_of_mem _ (List.mem_append_left _ (List.mem_append_right _ (h9)))) hown hK hP (0) (mw_M G (z3 α β (su γ 41 0 0 0))) rfl 4 (by decide) (hts (.fieldLink RX6 21 "OrganCensusModel" "s" "LOrganCensusModel$State;") (List.mem_of_getElem? (i := 2) rfl)) (fun _ h9 => h9) rfl dX6_banished_22 ?_
      refine va_getN (D := G.1) (ci := 7) (v := .ref (ms G 0 15)) (C := RX5) (T := TX5) (N := 21) hx hb hts (fun w9 h9 => List.mem_cons_of_mem _ (List.mem_append_right _ (h9))) hown hK hP (3 + 18 * 0 + (0)) (mv_S G (z3 α β (su γ 41 0 0 0)) (show 0 < 2 by decide)) rfl 17 (by decide) (va_Nw.use rfl (hN.1 (RX6, 111, RX5, "banished", "[I", RX6) (List.mem_of_getElem? (i := 14) rfl))) (fun _ h9 => h9) rfl dX6_banished_25 ?_
      refine lv_bipush (v := 6) hx hb dX6_banished_28 (by decide) ?_
      refine lv_iload_n hx hb dX6_banished_30 rfl (lv_at hl 1 rfl) ?_
      refine lv_imul hx hb dX6_banished_31 ?_
      refine lv_iload_n hx hb dX6_banished_32 rfl (lv_at hl 2 rfl) ?_
      refine lv_iadd hx hb dX6_banished_33 ?_
      refine o_iald (k := (6 * (oN x)) + (oN y)) hx hb hK hP (3 + 18 * 0 + (15)) 0 (mv_A15 G (z3 α β (su γ 41 0 0 0)) (show 0 < 2 by decide)) rfl (o_nadd (o_nmul (by decide) (oIn_x c10)) (oIn_x c18)) (by omega) (by decide) dX6_banished_34 ?_
      refine lv_goto (tgt := 43) hx hb dX6_banished_35 (by decide) ?_
      exact o_iretM hx hb hr hlocks hS dX6_banished_43 (by have hP9 := hP; simp (decide := true) only [cBan, mT, c10, c18, Bool.true_and, Bool.and_true, Bool.false_and, Bool.and_false, Bool.false_eq_true, if_true, if_false, reduceIte, not_true_eq_false, not_false_eq_true, and_true, and_false, true_and, false_and, Nat.reduceEqDiff, reduceCtorEq]; first | exact hP9 | (rw [su_su] at hP9; exact hP9)) (by simp (decide := true) only [cBan, mT, c10, c18, Bool.true_and, Bool.and_true, Bool.false_and, Bool.and_false, Bool.false_eq_true, if_true, if_false, reduceIte, not_true_eq_false, not_false_eq_true, and_true, and_false, true_and, false_and, Nat.reduceEqDiff, reduceCtorEq]; try rfl)
set_option maxHeartbeats 4000000 in
set_option maxRecDepth 100000 in
theorem m_X6_heard (l : Launch) (G : oG) (hI : wl_I G.2.1 39) (α β γ : oT) (nS : Nat) (nO : Nat) (nH : Nat) (hz : qOK α nS nO nH) (x : Int32) (y : Int32) : Met l yX6_heard wsX6_heard ({ frames := 4, cells := 0, slots := 0, locals := 95 } : Room) (va_Pc [.ref (G.2.1 0), .int x, .int y] (PW G (mw G (z3 α β γ)))) (oQ (some (.int (if cHeard nS (qNp α) x y = 0 then qHeard α nO x y else 0))) (fun H9 => va_P G.1 vwCl (mw G (z3 α β (mT γ (cHeard nS (qNp α) x y)))) H9) (mA G)) 0 0 (mA G) := by
  refine o_body (cc := cX6_heard) (by decide +kernel) rfl (Nat.le_of_ble_eq_true rfl) ?_
  intro p e s m below meth c ls hx hb hml hr hlocks hown hts hP hK hN hl
  have hown : s.vm.findClass RX6 = some m.cls := hown
  have hl : lv_has ls 3 [(0, .ref (G.2.1 0)), (1, .int x), (2, .int y)] := hl
  have hS : va_S (mA G) s.heap s.heap [] := va_S.rf
  obtain ⟨hz1, hz2, hz3, hz4, hz5, hz6, hz7, hz8⟩ := id hz
  refine lv_aload_n hx hb dX6_heard_0 rfl (lv_at hl 0 rfl) ?_
  refine lv_iconst (v := 0) hx hb dX6_heard_1 (by decide) ?_
  refine va_put (D := G.1) (ci := 8) (v := .int 0) (ty := .int) (C := RX6) (T := TX6) (N := 6) hx hb hts (fun w9 h9 => List.mem_cons_of_mem _ (List.mem_append_left _ (List.mem_append_right _ (h9)))) tyX6 tyX6_ok nmX6 hown hK hP (mw_D G _ hI) hS (0) (mw_M G (z3 α β γ)) rfl 0 (by decide) (hts (.fieldLink RX6 28 "OrganCensusModel" "thrown" "I") (List.mem_of_getElem? (i := 1) rfl)) (fun _ h9 => h9) rfl (by decide +kernel) rfl rfl (Nat.le_of_ble_eq_true rfl) dX6_heard_2 (fun H locs hP hD hS => ?_)
  have hP : va_P G.1 vwCl (mw G (z3 α β (su γ 41 0 0 0))) H := by rw [← (mw_zP (a := α) (b := β) (c := γ) (τ' := su γ 41 0 0 0) (mw_uM0 G (z3 α β γ) 0))]; exact hP
  clear hD
  refine lv_aload_n hx hb dX6_heard_5 rfl (lv_at hl 0 rfl) ?_
  refine lv_iload_n hx hb dX6_heard_6 rfl (lv_at hl 1 rfl) ?_
  refine lv_iload_n hx hb dX6_heard_7 rfl (lv_at hl 2 rfl) ?_
  refine o_cVi (q0 := 0) (ci := 8) [.int x, .int y] [] ⟨hx, hb, hml, hown, hts⟩ (m_X6_isPitch l G α β (su γ 41 0 0 0) nS nO nH hz x y) (cwV 2 hts gX6_heard_X6_isPitch rfl rfl rfl (by decide +kernel) ⟨Nat.le_of_ble_eq_true rfl, Nat.le_of_ble_eq_true rfl⟩) hK hN hP rfl rfl (mw_M G (z3 α β (su γ 41 0 0 0))) rfl hl.1 rfl (Nat.le_of_ble_eq_true rfl) dX6_heard_8 ⟨Nat.zero_le _, Nat.zero_le _⟩ ?_
  refine lv_if_eq (tgt := 26) hx hb dX6_heard_11 (by decide) (fun c11 => ?_) (fun c11 => ?_)
  · have c11 := bI_eq.mp c11
    refine lv_aload_n hx hb dX6_heard_26 rfl (lv_at hl 0 rfl) ?_
    refine lv_iconst (v := 1) hx hb dX6_heard_27 (by decide) ?_
    refine o_cVmi (q0 := 0) (ci := 8) [.int 1] [] ⟨hx, hb, hml, hown, hts⟩ (m_X6_no l G hI α β (su γ 41 0 0 0) 1) (cwV 1 hts gX6_heard_X6_no rfl rfl rfl (by decide +kernel) ⟨Nat.le_of_ble_eq_true rfl, Nat.le_of_ble_eq_true rfl⟩) hK hN hP hS rfl rfl (mw_M G (z3 α β (su γ 41 0 0 0))) rfl hl.1 rfl (Nat.le_of_ble_eq_true rfl) dX6_heard_28 ⟨Nat.zero_le _, Nat.zero_le _⟩ (fun H locs hP hS => ?_)
    exact o_iretM hx hb hr hlocks hS dX6_heard_31 (by have hP9 := hP; simp (decide := true) only [cHeard, mT, c11, Bool.true_and, Bool.and_true, Bool.false_and, Bool.and_false, Bool.false_eq_true, if_true, if_false, reduceIte, not_true_eq_false, not_false_eq_true, and_true, and_false, true_and, false_and, Nat.reduceEqDiff, reduceCtorEq]; first | exact hP9 | (rw [su_su] at hP9; exact hP9)) (by simp (decide := true) only [cHeard, mT, c11, Bool.true_and, Bool.and_true, Bool.false_and, Bool.and_false, Bool.false_eq_true, if_true, if_false, reduceIte, not_true_eq_false, not_false_eq_true, and_true, and_false, true_and, false_and, Nat.reduceEqDiff, reduceCtorEq]; try rfl)
  · have c11 := bI_ne.mp c11
    have c111 := ((Bool.and_eq_true _ _).mp c11).1
    have c112 := ((Bool.and_eq_true _ _).mp c11).2
    have n111 := oIn_lt (by omega) c111
    have hp112 := (hz.2.2.2.2.2.2.1 (oN x) (by omega)).2
    have n112 := oIn_lt (by omega) c112
    refine lv_aload_n hx hb dX6_heard_14 rfl (lv_at hl 0 rfl) ?_
    refine va_get (D := G.1) (ci := 8) (v := .ref (ms G 0 0)) (C := RX6) (T := TX6) (N := 6) hx hb hts (fun w9 h9 => List.mem_cons_of_mem _ (List.mem_append_left _ (List.mem_append_right _ (h9)))) hown hK hP (0) (mw_M G (z3 α β (su γ 41 0 0 0))) rfl 4 (by decide) (hts (.fieldLink RX6 21 "OrganCensusModel" "s" "LOrganCensusModel$State;") (List.mem_of_getElem? (i := 2) rfl)) (fun _ h9 => h9) rfl dX6_heard_15 ?_
    refine lv_iload_n hx hb dX6_heard_18 rfl (lv_at hl 1 rfl) ?_
    refine lv_iload_n hx hb dX6_heard_19 rfl (lv_at hl 2 rfl) ?_
    have hP : va_P G.1 vwCl (mtw G (z3 α β (su γ 41 0 0 0)) 0 α) H := by rw [mz0]; exact hP
    refine o_cVi (q0 := 3 + 18 * 0 + (0)) (ci := 7) [.int x, .int y] [] ⟨hx, hb, hml, hown, hts⟩ (m_X5_heard l G (z3 α β (su γ 41 0 0 0)) (show 0 < 2 by decide) α nS nO nH hz x y) (cwV 2 hts gX6_heard_X5_heard rfl rfl rfl (by decide +kernel) ⟨Nat.le_of_ble_eq_true rfl, Nat.le_of_ble_eq_true rfl⟩) hK hN hP rfl rfl (mt_S G (z3 α β (su γ 41 0 0 0)) (show 0 < 2 by decide) α) rfl hl.1 rfl (Nat.le_of_ble_eq_true rfl) dX6_heard_20 ⟨Nat.zero_le _, Nat.zero_le _⟩ ?_
    have hP : va_P G.1 vwCl (mw G (z3 α β (su γ 41 0 0 0))) H := by rw [mz0] at hP; exact hP
    refine lv_goto (tgt := 31) hx hb dX6_heard_23 (by decide) ?_
    exact o_iretM hx hb hr hlocks hS dX6_heard_31 (by have hP9 := hP; simp (decide := true) only [cHeard, mT, c11, Bool.true_and, Bool.and_true, Bool.false_and, Bool.and_false, Bool.false_eq_true, if_true, if_false, reduceIte, not_true_eq_false, not_false_eq_true, and_true, and_false, true_and, false_and, Nat.reduceEqDiff, reduceCtorEq]; first | exact hP9 | (rw [su_su] at hP9; exact hP9)) (by simp (decide := true) only [cHeard, mT, c11, Bool.true_and, Bool.and_true, Bool.false_and, Bool.and_false, Bool.false_eq_true, if_true, if_false, reduceIte, not_true_eq_false, not_false_eq_true, and_true, and_false, true_and, false_and, Nat.reduceEqDiff, reduceCtorEq]; try rfl)
