set_option maxHeartbeats 4000000 in
set_option maxRecDepth 100000 in
theorem m_X6_isIn (l : Launch) (G : oG) (wd : va_W) (v : Int32) (x : Int32) (y : Int32) : Met l yX6_isIn wsX6_isIn ({ frames := 0, cells := 0, slots := 0, locals := 0 } : Room) (va_Pc [.int v, .int x, .int y] (PW G wd)) (oR (some (.int (bI (oRg v x y))))) 0 0 (fun _ => False) := by
  refine o_body (cc := cX6_isIn) (by decide +kernel) rfl (Nat.le_of_ble_eq_true rfl) ?_
  intro p e s m below meth c ls hx hb hml hr hlocks hown hts hP hK hN hl
  have hown : s.vm.findClass RX6 = some m.cls := hown
  have hl : lv_has ls 3 [(0, .int v), (1, .int x), (2, .int y)] := hl
  refine lv_iload_n hx hb dX6_isIn_0 rfl (lv_at hl 0 rfl) ?_
  refine lv_iload_n hx hb dX6_isIn_1 rfl (lv_at hl 1 rfl) ?_
  refine lv_icmp_lt (tgt := 14) hx hb dX6_isIn_2 (by decide) (fun c2 => ?_) (fun c2 => ?_)
  · refine lv_iconst (v := 0) hx hb dX6_isIn_14 (by decide) ?_
    exact o_zretR hx hb hr hlocks dX6_isIn_15 (by first | exact Or.inl rfl | exact Or.inr rfl) (by simp [oRg, bI, ← Int32.not_lt, c2])
  · refine lv_iload_n hx hb dX6_isIn_5 rfl (lv_at hl 0 rfl) ?_
    refine lv_iload_n hx hb dX6_isIn_6 rfl (lv_at hl 2 rfl) ?_
    refine lv_icmp_gt (tgt := 14) hx hb dX6_isIn_7 (by decide) (fun c7 => ?_) (fun c7 => ?_)
    · refine lv_iconst (v := 0) hx hb dX6_isIn_14 (by decide) ?_
      exact o_zretR hx hb hr hlocks dX6_isIn_15 (by first | exact Or.inl rfl | exact Or.inr rfl) (by simp [oRg, bI, ← Int32.not_lt, c2, c7])
    · refine lv_iconst (v := 1) hx hb dX6_isIn_10 (by decide) ?_
      refine lv_goto (tgt := 15) hx hb dX6_isIn_11 (by decide) ?_
      exact o_zretR hx hb hr hlocks dX6_isIn_15 (by first | exact Or.inl rfl | exact Or.inr rfl) (by simp [oRg, bI, ← Int32.not_lt, c2, c7])
set_option maxHeartbeats 4000000 in
set_option maxRecDepth 100000 in
theorem m_X6_isStreet (l : Launch) (G : oG) (α β γ : oT) (nS : Nat) (nO : Nat) (nH : Nat) (hz : qOK α nS nO nH) (x : Int32) : Met l yX6_isStreet wsX6_isStreet ({ frames := 1, cells := 0, slots := 0, locals := 22 } : Room) (va_Pc [.ref (G.2.1 0), .int x] (PW G (mw G (z3 α β γ)))) (oR (some (.int (bI (oIn x nS))))) 0 0 (fun _ => False) := by
  refine o_body (cc := cX6_isStreet) (by decide +kernel) rfl (Nat.le_of_ble_eq_true rfl) ?_
  intro p e s m below meth c ls hx hb hml hr hlocks hown hts hP hK hN hl
  have hown : s.vm.findClass RX6 = some m.cls := hown
  have hl : lv_has ls 2 [(0, .ref (G.2.1 0)), (1, .int x)] := hl
  obtain ⟨hz1, hz2, hz3, hz4, hz5, hz6, hz7, hz8⟩ := id hz
  refine lv_iload_n hx hb dX6_isStreet_0 rfl (lv_at hl 1 rfl) ?_
  refine lv_iconst (v := 0) hx hb dX6_isStreet_1 (by decide) ?_
  refine lv_aload_n hx hb dX6_isStreet_2 rfl (lv_at hl 0 rfl) ?_
  refine va_get (D := G.1) (ci := 8) (v := .ref (ms G 0 0)) (C := RX6) (T := TX6) (N := 6) hx hb hts (fun w9 h9 => List.mem_cons_of_mem _ (List.mem_append_left _ (List.mem_append_right _ (h9)))) hown hK hP (0) (mw_M G (z3 α β γ)) rfl 4 (by decide) (hts (.fieldLink RX6 21 "OrganCensusModel" "s" "LOrganCensusModel$State;") (List.mem_of_getElem? (i := 1) rfl)) (fun _ h9 => h9) rfl dX6_isStreet_3 ?_
  refine va_getN (D := G.1) (ci := 7) (v := .int (α 40 0 1)) (C := RX5) (T := TX5) (N := 21) hx hb hts (fun w9 h9 => List.mem_cons_of_mem _ (List.mem_append_right _ (h9))) hown hK hP (3 + 18 * 0 + (0)) (mv_S G (z3 α β γ) (show 0 < 2 by decide)) rfl 1 (by decide) (va_Nw.use rfl (hN.1 (RX6, 32, RX5, "streets", "I", RX6) (List.mem_of_getElem? (i := 0) rfl))) (fun _ h9 => h9) rfl dX6_isStreet_6 ?_
  refine lv_iconst (v := 1) hx hb dX6_isStreet_9 (by decide) ?_
  refine lv_isub hx hb dX6_isStreet_10 ?_
  refine o_cSi [.int x, .int 0, .int ((α 40 0 1) - 1)] [] ⟨hx, hb, hml, hown, hts⟩ (m_X6_isIn l G (mw G (z3 α β γ)) x 0 ((α 40 0 1) - 1)) (va_cwS 3 hts gX6_isStreet_X6_isIn rfl rfl rfl (by decide +kernel) ⟨Nat.le_of_ble_eq_true rfl, Nat.le_of_ble_eq_true rfl⟩) hK hN hP rfl hl.1 rfl (Nat.le_of_ble_eq_true rfl) dX6_isStreet_11 ⟨Nat.zero_le _, Nat.zero_le _⟩ ?_
  exact o_zretR hx hb hr hlocks dX6_isStreet_14 (by exact bI_01 _) (by rw [hz1, oRg_p x (by omega)])
set_option maxHeartbeats 4000000 in
set_option maxRecDepth 100000 in
theorem m_X6_isOrgan (l : Launch) (G : oG) (α β γ : oT) (nS : Nat) (nO : Nat) (nH : Nat) (hz : qOK α nS nO nH) (x : Int32) : Met l yX6_isOrgan wsX6_isOrgan ({ frames := 1, cells := 0, slots := 0, locals := 22 } : Room) (va_Pc [.ref (G.2.1 0), .int x] (PW G (mw G (z3 α β γ)))) (oR (some (.int (bI (oIn x nO))))) 0 0 (fun _ => False) := by
  refine o_body (cc := cX6_isOrgan) (by decide +kernel) rfl (Nat.le_of_ble_eq_true rfl) ?_
  intro p e s m below meth c ls hx hb hml hr hlocks hown hts hP hK hN hl
  have hown : s.vm.findClass RX6 = some m.cls := hown
  have hl : lv_has ls 2 [(0, .ref (G.2.1 0)), (1, .int x)] := hl
  obtain ⟨hz1, hz2, hz3, hz4, hz5, hz6, hz7, hz8⟩ := id hz
  refine lv_iload_n hx hb dX6_isOrgan_0 rfl (lv_at hl 1 rfl) ?_
  refine lv_iconst (v := 0) hx hb dX6_isOrgan_1 (by decide) ?_
  refine lv_aload_n hx hb dX6_isOrgan_2 rfl (lv_at hl 0 rfl) ?_
  refine va_get (D := G.1) (ci := 8) (v := .ref (ms G 0 0)) (C := RX6) (T := TX6) (N := 6) hx hb hts (fun w9 h9 => List.mem_cons_of_mem _ (List.mem_append_left _ (List.mem_append_right _ (h9)))) hown hK hP (0) (mw_M G (z3 α β γ)) rfl 4 (by decide) (hts (.fieldLink RX6 21 "OrganCensusModel" "s" "LOrganCensusModel$State;") (List.mem_of_getElem? (i := 1) rfl)) (fun _ h9 => h9) rfl dX6_isOrgan_3 ?_
  refine va_getN (D := G.1) (ci := 7) (v := .int (α 40 0 2)) (C := RX5) (T := TX5) (N := 21) hx hb hts (fun w9 h9 => List.mem_cons_of_mem _ (List.mem_append_right _ (h9))) hown hK hP (3 + 18 * 0 + (0)) (mv_S G (z3 α β γ) (show 0 < 2 by decide)) rfl 7 (by decide) (va_Nw.use rfl (hN.1 (RX6, 39, RX5, "organs", "I", RX6) (List.mem_of_getElem? (i := 1) rfl))) (fun _ h9 => h9) rfl dX6_isOrgan_6 ?_
  refine lv_iconst (v := 1) hx hb dX6_isOrgan_9 (by decide) ?_
  refine lv_isub hx hb dX6_isOrgan_10 ?_
  refine o_cSi [.int x, .int 0, .int ((α 40 0 2) - 1)] [] ⟨hx, hb, hml, hown, hts⟩ (m_X6_isIn l G (mw G (z3 α β γ)) x 0 ((α 40 0 2) - 1)) (va_cwS 3 hts gX6_isOrgan_X6_isIn rfl rfl rfl (by decide +kernel) ⟨Nat.le_of_ble_eq_true rfl, Nat.le_of_ble_eq_true rfl⟩) hK hN hP rfl hl.1 rfl (Nat.le_of_ble_eq_true rfl) dX6_isOrgan_11 ⟨Nat.zero_le _, Nat.zero_le _⟩ ?_
  exact o_zretR hx hb hr hlocks dX6_isOrgan_14 (by exact bI_01 _) (by rw [hz3, oRg_p x (by omega)])
set_option maxHeartbeats 4000000 in
set_option maxRecDepth 100000 in
theorem m_X6_isPitch (l : Launch) (G : oG) (α β γ : oT) (nS : Nat) (nO : Nat) (nH : Nat) (hz : qOK α nS nO nH) (x : Int32) (y : Int32) : Met l yX6_isPitch wsX6_isPitch ({ frames := 2, cells := 0, slots := 0, locals := 43 } : Room) (va_Pc [.ref (G.2.1 0), .int x, .int y] (PW G (mw G (z3 α β γ)))) (oR (some (.int (bI (oIn x nS && oIn y (qNp α (oN x))))))) 0 0 (fun _ => False) := by
  refine o_body (cc := cX6_isPitch) (by decide +kernel) rfl (Nat.le_of_ble_eq_true rfl) ?_
  intro p e s m below meth c ls hx hb hml hr hlocks hown hts hP hK hN hl
  have hown : s.vm.findClass RX6 = some m.cls := hown
  have hl : lv_has ls 3 [(0, .ref (G.2.1 0)), (1, .int x), (2, .int y)] := hl
  obtain ⟨hz1, hz2, hz3, hz4, hz5, hz6, hz7, hz8⟩ := id hz
  refine lv_aload_n hx hb dX6_isPitch_0 rfl (lv_at hl 0 rfl) ?_
  refine lv_iload_n hx hb dX6_isPitch_1 rfl (lv_at hl 1 rfl) ?_
  refine o_cVi (q0 := 0) (ci := 8) [.int x] [] ⟨hx, hb, hml, hown, hts⟩ (m_X6_isStreet l G α β γ nS nO nH hz x) (cwV 1 hts gX6_isPitch_X6_isStreet rfl rfl rfl (by decide +kernel) ⟨Nat.le_of_ble_eq_true rfl, Nat.le_of_ble_eq_true rfl⟩) hK hN hP rfl rfl (mw_M G (z3 α β γ)) rfl hl.1 rfl (Nat.le_of_ble_eq_true rfl) dX6_isPitch_2 ⟨Nat.zero_le _, Nat.zero_le _⟩ ?_
  refine lv_if_eq (tgt := 31) hx hb dX6_isPitch_5 (by decide) (fun c5 => ?_) (fun c5 => ?_)
  · have c5 := bI_eq.mp c5
    refine lv_iconst (v := 0) hx hb dX6_isPitch_31 (by decide) ?_
    exact o_zretR hx hb hr hlocks dX6_isPitch_32 (by first | exact Or.inl rfl | exact Or.inr rfl) (by simp [bI, c5])
  · have c5 := bI_ne.mp c5
    have n5 := oIn_lt (by omega) c5
    refine lv_iload_n hx hb dX6_isPitch_8 rfl (lv_at hl 2 rfl) ?_
    refine lv_iconst (v := 0) hx hb dX6_isPitch_9 (by decide) ?_
    refine lv_aload_n hx hb dX6_isPitch_10 rfl (lv_at hl 0 rfl) ?_
    refine va_get (D := G.1) (ci := 8) (v := .ref (ms G 0 0)) (C := RX6) (T := TX6) (N := 6) hx hb hts (fun w9 h9 => List.mem_cons_of_mem _ (List.mem_append_left _ (List.mem_append_right _ (h9)))) hown hK hP (0) (mw_M G (z3 α β γ)) rfl 4 (by decide) (hts (.fieldLink RX6 21 "OrganCensusModel" "s" "LOrganCensusModel$State;") (List.mem_of_getElem? (i := 1) rfl)) (fun _ h9 => h9) rfl dX6_isPitch_11 ?_
    refine va_getN (D := G.1) (ci := 7) (v := .ref (ms G 0 1)) (C := RX5) (T := TX5) (N := 21) hx hb hts (fun w9 h9 => List.mem_cons_of_mem _ (List.mem_append_right _ (h9))) hown hK hP (3 + 18 * 0 + (0)) (mv_S G (z3 α β γ) (show 0 < 2 by decide)) rfl 2 (by decide) (va_Nw.use rfl (hN.1 (RX6, 46, RX5, "pitches", "[I", RX6) (List.mem_of_getElem? (i := 2) rfl))) (fun _ h9 => h9) rfl dX6_isPitch_14 ?_
    refine lv_iload_n hx hb dX6_isPitch_17 rfl (lv_at hl 1 rfl) ?_
    refine o_iald (k := oN x) hx hb hK hP (3 + 18 * 0 + (1)) 0 (mv_A1 G (z3 α β γ) (show 0 < 2 by decide)) rfl (oIn_x c5) (by omega) (by decide) dX6_isPitch_18 ?_
    refine lv_iconst (v := 1) hx hb dX6_isPitch_19 (by decide) ?_
    refine lv_isub hx hb dX6_isPitch_20 ?_
    refine o_cSi [.int y, .int 0, .int ((α 1 0 (oN x)) - 1)] [] ⟨hx, hb, hml, hown, hts⟩ (m_X6_isIn l G (mw G (z3 α β γ)) y 0 ((α 1 0 (oN x)) - 1)) (va_cwS 3 hts gX6_isPitch_X6_isIn rfl rfl rfl (by decide +kernel) ⟨Nat.le_of_ble_eq_true rfl, Nat.le_of_ble_eq_true rfl⟩) hK hN hP rfl hl.1 rfl (Nat.le_of_ble_eq_true rfl) dX6_isPitch_21 ⟨Nat.zero_le _, Nat.zero_le _⟩ ?_
    rw [show oRg y 0 (α 1 0 (oN x) - 1) = oIn y (qNp α (oN x)) from by rw [(hz7 (oN x) (by omega)).1]; exact oRg_p y (by have := (hz7 (oN x) (by omega)).2; omega)]
    refine lv_if_eq (tgt := 31) hx hb dX6_isPitch_24 (by decide) (fun c24 => ?_) (fun c24 => ?_)
    · have c24 := bI_eq.mp c24
      refine lv_iconst (v := 0) hx hb dX6_isPitch_31 (by decide) ?_
      exact o_zretR hx hb hr hlocks dX6_isPitch_32 (by first | exact Or.inl rfl | exact Or.inr rfl) (by simp [bI, c5, c24])
    · have c24 := bI_ne.mp c24
      have hp24 := (hz.2.2.2.2.2.2.1 (oN x) (by omega)).2
      have n24 := oIn_lt (by omega) c24
      refine lv_iconst (v := 1) hx hb dX6_isPitch_27 (by decide) ?_
      refine lv_goto (tgt := 32) hx hb dX6_isPitch_28 (by decide) ?_
      exact o_zretR hx hb hr hlocks dX6_isPitch_32 (by first | exact Or.inl rfl | exact Or.inr rfl) (by simp [bI, c5, c24])
set_option maxHeartbeats 4000000 in
set_option maxRecDepth 100000 in
theorem m_X6_thrown (l : Launch) (G : oG) (α β γ : oT) : Met l yX6_thrown wsX6_thrown ({ frames := 0, cells := 0, slots := 0, locals := 0 } : Room) (va_Pc [.ref (G.2.1 0)] (PW G (mw G (z3 α β γ)))) (oR (some (.int (γ 41 0 0)))) 0 0 (fun _ => False) := by
  refine o_body (cc := cX6_thrown) (by decide +kernel) rfl (Nat.le_of_ble_eq_true rfl) ?_
  intro p e s m below meth c ls hx hb hml hr hlocks hown hts hP hK hN hl
  have hown : s.vm.findClass RX6 = some m.cls := hown
  have hl : lv_has ls 1 [(0, .ref (G.2.1 0))] := hl
  refine lv_aload_n hx hb dX6_thrown_0 rfl (lv_at hl 0 rfl) ?_
  refine va_get (D := G.1) (ci := 8) (v := .int (γ 41 0 0)) (C := RX6) (T := TX6) (N := 6) hx hb hts (fun w9 h9 => List.mem_cons_of_mem _ (List.mem_append_right _ (h9))) hown hK hP (0) (mw_M G (z3 α β γ)) rfl 0 (by decide) (hts (.fieldLink RX6 28 "OrganCensusModel" "thrown" "I") (List.mem_of_getElem? (i := 1) rfl)) (fun _ h9 => h9) rfl dX6_thrown_1 ?_
  exact o_iretR hx hb hr hlocks dX6_thrown_4 (rfl)
set_option maxHeartbeats 4000000 in
set_option maxRecDepth 100000 in
theorem m_X6_no (l : Launch) (G : oG) (hI : wl_I G.2.1 39) (α β γ : oT) (x : Int32) : Met l yX6_no wsX6_no ({ frames := 0, cells := 0, slots := 0, locals := 0 } : Room) (va_Pc [.ref (G.2.1 0), .int x] (PW G (mw G (z3 α β γ)))) (oQ (some (.int (0))) (fun H9 => va_P G.1 vwCl (mw G (z3 α β (su γ 41 0 0 x))) H9) (mA G)) 0 0 (mA G) := by
  refine o_body (cc := cX6_no) (by decide +kernel) rfl (Nat.le_of_ble_eq_true rfl) ?_
  intro p e s m below meth c ls hx hb hml hr hlocks hown hts hP hK hN hl
  have hown : s.vm.findClass RX6 = some m.cls := hown
  have hl : lv_has ls 2 [(0, .ref (G.2.1 0)), (1, .int x)] := hl
  have hS : va_S (mA G) s.heap s.heap [] := va_S.rf
  refine lv_aload_n hx hb dX6_no_0 rfl (lv_at hl 0 rfl) ?_
  refine lv_iload_n hx hb dX6_no_1 rfl (lv_at hl 1 rfl) ?_
  refine va_put (D := G.1) (ci := 8) (v := .int x) (ty := .int) (C := RX6) (T := TX6) (N := 6) hx hb hts (fun w9 h9 => List.mem_cons_of_mem _ (List.mem_append_right _ (h9))) tyX6 tyX6_ok nmX6 hown hK hP (mw_D G _ hI) hS (0) (mw_M G (z3 α β γ)) rfl 0 (by decide) (hts (.fieldLink RX6 28 "OrganCensusModel" "thrown" "I") (List.mem_of_getElem? (i := 1) rfl)) (fun _ h9 => h9) rfl (by decide +kernel) rfl rfl (Nat.le_of_ble_eq_true rfl) dX6_no_2 (fun H locs hP hD hS => ?_)
  have hP : va_P G.1 vwCl (mw G (z3 α β (su γ 41 0 0 x))) H := by rw [← (mw_zP (a := α) (b := β) (c := γ) (τ' := su γ 41 0 0 x) (mw_uM0 G (z3 α β γ) x))]; exact hP
  clear hD
  refine lv_iconst (v := 0) hx hb dX6_no_5 (by decide) ?_
  exact o_iretM hx hb hr hlocks hS dX6_no_6 (hP) (rfl)
set_option maxHeartbeats 4000000 in
set_option maxRecDepth 100000 in
theorem m_X6_build (l : Launch) (G : oG) (hI : wl_I G.2.1 39) (α β γ : oT) (nS : Nat) (nO : Nat) (nH : Nat) (hz : qOK α nS nO nH) (x : Int32) : Met l yX6_build wsX6_build ({ frames := 1, cells := 0, slots := 0, locals := 22 } : Room) (va_Pc [.ref (G.2.1 0), .int x] (PW G (mw G (z3 α β γ)))) (oQ (some (.int (if cBuild nS x = 0 then nI nS else 0))) (fun H9 => va_P G.1 vwCl (mw G (z3 (if cBuild nS x = 0 then mBuild α nS x else α) β (mT γ (cBuild nS x)))) H9) (mA G)) 0 0 (mA G) := by
  refine o_body (cc := cX6_build) (by decide +kernel) rfl (Nat.le_of_ble_eq_true rfl) ?_
  intro p e s m below meth c ls hx hb hml hr hlocks hown hts hP hK hN hl
  have hown : s.vm.findClass RX6 = some m.cls := hown
  have hl : lv_has ls 3 [(0, .ref (G.2.1 0)), (1, .int x)] := hl
  have hS : va_S (mA G) s.heap s.heap [] := va_S.rf
  obtain ⟨hz1, hz2, hz3, hz4, hz5, hz6, hz7, hz8⟩ := id hz
  refine lv_aload_n hx hb dX6_build_0 rfl (lv_at hl 0 rfl) ?_
  refine lv_iconst (v := 0) hx hb dX6_build_1 (by decide) ?_
  refine va_put (D := G.1) (ci := 8) (v := .int 0) (ty := .int) (C := RX6) (T := TX6) (N := 6) hx hb hts (fun w9 h9 => List.mem_cons_of_mem _ (List.mem_append_left _ (List.mem_append_right _ (h9)))) tyX6 tyX6_ok nmX6 hown hK hP (mw_D G _ hI) hS (0) (mw_M G (z3 α β γ)) rfl 0 (by decide) (hts (.fieldLink RX6 28 "OrganCensusModel" "thrown" "I") (List.mem_of_getElem? (i := 1) rfl)) (fun _ h9 => h9) rfl (by decide +kernel) rfl rfl (Nat.le_of_ble_eq_true rfl) dX6_build_2 (fun H locs hP hD hS => ?_)
  have hP : va_P G.1 vwCl (mw G (z3 α β (su γ 41 0 0 0))) H := by rw [← (mw_zP (a := α) (b := β) (c := γ) (τ' := su γ 41 0 0 0) (mw_uM0 G (z3 α β γ) 0))]; exact hP
  clear hD
  refine lv_iload_n hx hb dX6_build_5 rfl (lv_at hl 1 rfl) ?_
  refine lv_iconst (v := 3) hx hb dX6_build_6 (by decide) ?_
  refine lv_bipush (v := 20) hx hb dX6_build_7 (by decide) ?_
  refine o_cSi [.int x, .int 3, .int 20] [] ⟨hx, hb, hml, hown, hts⟩ (m_X6_isIn l G (mw G (z3 α β (su γ 41 0 0 0))) x 3 20) (va_cwS 3 hts gX6_build_X6_isIn rfl rfl rfl (by decide +kernel) ⟨Nat.le_of_ble_eq_true rfl, Nat.le_of_ble_eq_true rfl⟩) hK hN hP rfl hl.1 rfl (Nat.le_of_ble_eq_true rfl) dX6_build_9 ⟨Nat.zero_le _, Nat.zero_le _⟩ ?_
  refine lv_if_ne (tgt := 21) hx hb dX6_build_12 (by decide) (fun c12 => ?_) (fun c12 => ?_)
  · have c12 := bI_ne.mp c12
    refine lv_aload_n hx hb dX6_build_21 rfl (lv_at hl 0 rfl) ?_
    refine va_get (D := G.1) (ci := 8) (v := .ref (ms G 0 0)) (C := RX6) (T := TX6) (N := 6) hx hb hts (fun w9 h9 => List.mem_cons_of_mem _ (List.mem_append_left _ (List.mem_append_right _ (h9)))) hown hK hP (0) (mw_M G (z3 α β (su γ 41 0 0 0))) rfl 4 (by decide) (hts (.fieldLink RX6 21 "OrganCensusModel" "s" "LOrganCensusModel$State;") (List.mem_of_getElem? (i := 2) rfl)) (fun _ h9 => h9) rfl dX6_build_22 ?_
    refine va_getN (D := G.1) (ci := 7) (v := .int (α 40 0 1)) (C := RX5) (T := TX5) (N := 21) hx hb hts (fun w9 h9 => List.mem_cons_of_mem _ (List.mem_append_right _ (h9))) hown hK hP (3 + 18 * 0 + (0)) (mv_S G (z3 α β (su γ 41 0 0 0)) (show 0 < 2 by decide)) rfl 1 (by decide) (va_Nw.use rfl (hN.1 (RX6, 32, RX5, "streets", "I", RX6) (List.mem_of_getElem? (i := 0) rfl))) (fun _ h9 => h9) rfl dX6_build_25 ?_
    refine lv_bipush (v := 6) hx hb dX6_build_28 (by decide) ?_
    refine lv_icmp_ne (tgt := 39) hx hb dX6_build_30 (by decide) (fun c30 => ?_) (fun c30 => ?_)
    · have n30 := (mt (o_neq (a := nS) (b := 6) hz.1 (by decide) (by omega) (by omega)).mpr) c30
      refine lv_aload_n hx hb dX6_build_39 rfl (lv_at hl 0 rfl) ?_
      refine va_get (D := G.1) (ci := 8) (v := .ref (ms G 0 0)) (C := RX6) (T := TX6) (N := 6) hx hb hts (fun w9 h9 => List.mem_cons_of_mem _ (List.mem_append_left _ (List.mem_append_right _ (h9)))) hown hK hP (0) (mw_M G (z3 α β (su γ 41 0 0 0))) rfl 4 (by decide) (hts (.fieldLink RX6 21 "OrganCensusModel" "s" "LOrganCensusModel$State;") (List.mem_of_getElem? (i := 2) rfl)) (fun _ h9 => h9) rfl dX6_build_40 ?_
      refine va_getN (D := G.1) (ci := 7) (v := .ref (ms G 0 1)) (C := RX5) (T := TX5) (N := 21) hx hb hts (fun w9 h9 => List.mem_cons_of_mem _ (List.mem_append_right _ (h9))) hown hK hP (3 + 18 * 0 + (0)) (mv_S G (z3 α β (su γ 41 0 0 0)) (show 0 < 2 by decide)) rfl 2 (by decide) (va_Nw.use rfl (hN.1 (RX6, 46, RX5, "pitches", "[I", RX6) (List.mem_of_getElem? (i := 2) rfl))) (fun _ h9 => h9) rfl dX6_build_43 ?_
      refine lv_aload_n hx hb dX6_build_46 rfl (lv_at hl 0 rfl) ?_
      refine va_get (D := G.1) (ci := 8) (v := .ref (ms G 0 0)) (C := RX6) (T := TX6) (N := 6) hx hb hts (fun w9 h9 => List.mem_cons_of_mem _ (List.mem_append_left _ (List.mem_append_right _ (h9)))) hown hK hP (0) (mw_M G (z3 α β (su γ 41 0 0 0))) rfl 4 (by decide) (hts (.fieldLink RX6 21 "OrganCensusModel" "s" "LOrganCensusModel$State;") (List.mem_of_getElem? (i := 2) rfl)) (fun _ h9 => h9) rfl dX6_build_47 ?_
      refine va_getN (D := G.1) (ci := 7) (v := .int (α 40 0 1)) (C := RX5) (T := TX5) (N := 21) hx hb hts (fun w9 h9 => List.mem_cons_of_mem _ (List.mem_append_right _ (h9))) hown hK hP (3 + 18 * 0 + (0)) (mv_S G (z3 α β (su γ 41 0 0 0)) (show 0 < 2 by decide)) rfl 1 (by decide) (va_Nw.use rfl (hN.1 (RX6, 32, RX5, "streets", "I", RX6) (List.mem_of_getElem? (i := 0) rfl))) (fun _ h9 => h9) rfl dX6_build_50 ?_
      refine lv_iload_n hx hb dX6_build_53 rfl (lv_at hl 1 rfl) ?_
      refine o_iast (k := nS) hx hb hK hP (mw_D G _ hI) hS (3 + 18 * 0 + (1)) 0 (mv_A1 G (z3 α β (su γ 41 0 0 0)) (show 0 < 2 by decide)) rfl hz.1 (by omega) (by decide) dX6_build_54 (fun H locs hP hD hS => ?_)
      have hP : va_P G.1 vwCl (mw G (z3 (su α 1 0 nS x) β (su γ 41 0 0 0))) H := by rw [← (mu_z0 (a := α) (b := β) (c := (su γ 41 0 0 0)) (τ' := su α 1 0 nS x) (mvu_A1 G (z3 α β (su γ 41 0 0 0)) (show 0 < 2 by decide) nS x))]; exact hP
      clear hD
      refine lv_iconst (v := 0) hx hb dX6_build_55 (by decide) ?_
      refine lv_istore_n (lv' := [(2, .int 0), (0, .ref (G.2.1 0)), (1, .int x)]) hx hb dX6_build_56 rfl hl (by decide) rfl (fun ls hl => ?_)
      have lp57 : ∀ (d57 k : Nat), k + d57 = 6 → ∀ x57_2 : Int32, x57_2 = (nI k) → ∀ (τ57 : oZ), τ57 = (z3 (qT5 (su α 1 0 nS x) nS k) β (su γ 41 0 0 0)) → ∀ (H : Heap) (locs : List Loc), va_P G.1 vwCl (mw G τ57) H → va_S (mA G) s.heap H locs → ∀ ls : Array Slot, lv_has ls 3 [(0, .ref (G.2.1 0)), (1, .int x), (2, .int x57_2)] → W p l e ({ frames := 1, cells := 0, slots := 0, locals := 22 } : Room) s m ([.ref (G.2.1 0), .int x] : List Value).toArray below meth c H locs 0 0 (MQ below (oQ (some (.int (if cBuild nS x = 0 then nI nS else 0))) (fun H9 => va_P G.1 vwCl (mw G (z3 (if cBuild nS x = 0 then mBuild α nS x else α) β (mT γ (cBuild nS x)))) H9) (mA G)) ([.ref (G.2.1 0), .int x] : List Value).toArray s 0 0 (mA G)) (F0 m 57 ls []) := by
        intro d57
        induction d57 with
        | zero =>
          intro k hk57 x57_2 e57_2 τ57 eτ57 H locs hP hS ls hl
          subst e57_2
          subst eτ57
          have hk57 : k = 6 := by omega
          refine lv_iload_n hx hb dX6_build_57 rfl (lv_at hl 2 rfl) ?_
          refine lv_bipush (v := 6) hx hb dX6_build_58 (by decide) ?_
          refine lv_icmp_ge (tgt := 90) hx hb dX6_build_60 (by decide) (fun c60 => ?_) (fun c60 => ?_)
          · have n60 := (o_nle (a := 6) (b := k) (by decide) rfl (by omega) (by omega)).mp c60
            refine lv_aload_n hx hb dX6_build_90 rfl (lv_at hl 0 rfl) ?_
            refine va_get (D := G.1) (ci := 8) (v := .ref (ms G 0 0)) (C := RX6) (T := TX6) (N := 6) hx hb hts (fun w9 h9 => List.mem_cons_of_mem _ (List.mem_append_left _ (List.mem_append_right _ (h9)))) hown hK hP (0) (mw_M G (z3 (qT5 (su α 1 0 nS x) nS k) β (su γ 41 0 0 0))) rfl 4 (by decide) (hts (.fieldLink RX6 21 "OrganCensusModel" "s" "LOrganCensusModel$State;") (List.mem_of_getElem? (i := 2) rfl)) (fun _ h9 => h9) rfl dX6_build_91 ?_
            refine lv_dup hx hb dX6_build_94 rfl ?_
            refine va_getN (D := G.1) (ci := 7) (v := .int ((qT5 (su α 1 0 nS x) nS k) 40 0 1)) (C := RX5) (T := TX5) (N := 21) hx hb hts (fun w9 h9 => List.mem_cons_of_mem _ (List.mem_append_right _ (h9))) hown hK hP (3 + 18 * 0 + (0)) (mv_S G (z3 (qT5 (su α 1 0 nS x) nS k) β (su γ 41 0 0 0)) (show 0 < 2 by decide)) rfl 1 (by decide) (va_Nw.use rfl (hN.1 (RX6, 32, RX5, "streets", "I", RX6) (List.mem_of_getElem? (i := 0) rfl))) (fun _ h9 => h9) rfl dX6_build_95 ?_
            refine lv_iconst (v := 1) hx hb dX6_build_98 (by decide) ?_
            refine lv_iadd hx hb dX6_build_99 ?_
            rw [show (qT5 (su α 1 0 nS x) nS k) 40 0 1 + 1 = nI (nS + 1) from by rw [qT5_k _ _ _ (by decide), su_k _ _ _ _ (by decide), hz1, nI_1]]
            refine va_putN (D := G.1) (ci := 7) (v := .int (nI (nS + 1))) (ty := .int) (C := RX5) (T := TX5) (N := 21) hx hb hts (fun w9 h9 => List.mem_cons_of_mem _ (List.mem_append_right _ (h9))) tyX5 tyX5_ok nmX5 hown hK hP (mw_D G _ hI) hS (3 + 18 * 0 + (0)) (mv_S G (z3 (qT5 (su α 1 0 nS x) nS k) β (su γ 41 0 0 0)) (show 0 < 2 by decide)) rfl 1 (by decide) (va_Nw.use rfl (hN.1 (RX6, 32, RX5, "streets", "I", RX6) (List.mem_of_getElem? (i := 0) rfl))) (fun _ h9 => h9) rfl (by decide +kernel) rfl rfl (Nat.le_of_ble_eq_true rfl) dX6_build_100 (fun H locs hP hD hS => ?_)
            have hP : va_P G.1 vwCl (mw G (z3 (su (qT5 (su α 1 0 nS x) nS k) 40 0 1 (nI (nS + 1))) β (su γ 41 0 0 0))) H := by rw [← (mu_z0 (a := (qT5 (su α 1 0 nS x) nS k)) (b := β) (c := (su γ 41 0 0 0)) (τ' := su (qT5 (su α 1 0 nS x) nS k) 40 0 1 (nI (nS + 1))) (mvu_S1 G (z3 (qT5 (su α 1 0 nS x) nS k) β (su γ 41 0 0 0)) (show 0 < 2 by decide) (nI (nS + 1))))]; exact hP
            clear hD
            refine lv_aload_n hx hb dX6_build_103 rfl (lv_at hl 0 rfl) ?_
            refine va_get (D := G.1) (ci := 8) (v := .ref (ms G 0 0)) (C := RX6) (T := TX6) (N := 6) hx hb hts (fun w9 h9 => List.mem_cons_of_mem _ (List.mem_append_left _ (List.mem_append_right _ (h9)))) hown hK hP (0) (mw_M G (z3 (su (qT5 (su α 1 0 nS x) nS k) 40 0 1 (nI (nS + 1))) β (su γ 41 0 0 0))) rfl 4 (by decide) (hts (.fieldLink RX6 21 "OrganCensusModel" "s" "LOrganCensusModel$State;") (List.mem_of_getElem? (i := 2) rfl)) (fun _ h9 => h9) rfl dX6_build_104 ?_
            refine va_getN (D := G.1) (ci := 7) (v := .int ((su (qT5 (su α 1 0 nS x) nS k) 40 0 1 (nI (nS + 1))) 40 0 1)) (C := RX5) (T := TX5) (N := 21) hx hb hts (fun w9 h9 => List.mem_cons_of_mem _ (List.mem_append_right _ (h9))) hown hK hP (3 + 18 * 0 + (0)) (mv_S G (z3 (su (qT5 (su α 1 0 nS x) nS k) 40 0 1 (nI (nS + 1))) β (su γ 41 0 0 0)) (show 0 < 2 by decide)) rfl 1 (by decide) (va_Nw.use rfl (hN.1 (RX6, 32, RX5, "streets", "I", RX6) (List.mem_of_getElem? (i := 0) rfl))) (fun _ h9 => h9) rfl dX6_build_107 ?_
            refine lv_iconst (v := 1) hx hb dX6_build_110 (by decide) ?_
            refine lv_isub hx hb dX6_build_111 ?_
            exact o_iretM hx hb hr hlocks hS dX6_build_112 (by first | (subst hk57; have hP9 := hP; simp (decide := true) only [cBuild, mT, c12, c30, n30, c60, n60, Bool.true_and, Bool.and_true, Bool.false_and, Bool.and_false, Bool.false_eq_true, if_true, if_false, reduceIte, not_true_eq_false, not_false_eq_true, and_true, and_false, true_and, false_and, Nat.reduceEqDiff, reduceCtorEq]; exact hP9) | (have hP9 := hP; simp (decide := true) only [cBuild, mT, c12, c30, n30, c60, n60, Bool.true_and, Bool.and_true, Bool.false_and, Bool.and_false, Bool.false_eq_true, if_true, if_false, reduceIte, not_true_eq_false, not_false_eq_true, and_true, and_false, true_and, false_and, Nat.reduceEqDiff, reduceCtorEq]; rw [su_su] at hP9; exact hP9)) (by first | (subst hk57; rw [su_s, nI_pred]; simp (decide := true) only [cBuild, c12, c30, n30, c60, n60, Bool.true_and, Bool.and_true, Bool.false_and, Bool.and_false, Bool.false_eq_true, if_true, if_false, reduceIte, not_true_eq_false, not_false_eq_true, and_true, and_false, true_and, false_and, Nat.reduceEqDiff, reduceCtorEq]) | (simp (decide := true) only [cBuild, c12, c30, n30, c60, n60, Bool.true_and, Bool.and_true, Bool.false_and, Bool.and_false, Bool.false_eq_true, if_true, if_false, reduceIte, not_true_eq_false, not_false_eq_true, and_true, and_false, true_and, false_and, Nat.reduceEqDiff, reduceCtorEq]))
          · have n60 := (mt (o_nle (a := 6) (b := k) (by decide) rfl (by omega) (by omega)).mpr) c60; omega
        | succ d57 ih57 =>
          intro k hk57 x57_2 e57_2 τ57 eτ57 H locs hP hS ls hl
          subst e57_2
          subst eτ57
          have hj57 : k < 6 := by omega
          refine lv_iload_n hx hb dX6_build_57 rfl (lv_at hl 2 rfl) ?_
          refine lv_bipush (v := 6) hx hb dX6_build_58 (by decide) ?_
          refine lv_icmp_ge (tgt := 90) hx hb dX6_build_60 (by decide) (fun c60 => ?_) (fun c60 => ?_)
          · have n60 := (o_nle (a := 6) (b := k) (by decide) rfl (by omega) (by omega)).mp c60; omega
          · have n60 := (mt (o_nle (a := 6) (b := k) (by decide) rfl (by omega) (by omega)).mpr) c60
            refine lv_aload_n hx hb dX6_build_63 rfl (lv_at hl 0 rfl) ?_
            refine va_get (D := G.1) (ci := 8) (v := .ref (ms G 0 0)) (C := RX6) (T := TX6) (N := 6) hx hb hts (fun w9 h9 => List.mem_cons_of_mem _ (List.mem_append_left _ (List.mem_append_right _ (h9)))) hown hK hP (0) (mw_M G (z3 (qT5 (su α 1 0 nS x) nS k) β (su γ 41 0 0 0))) rfl 4 (by decide) (hts (.fieldLink RX6 21 "OrganCensusModel" "s" "LOrganCensusModel$State;") (List.mem_of_getElem? (i := 2) rfl)) (fun _ h9 => h9) rfl dX6_build_64 ?_
            refine va_getN (D := G.1) (ci := 7) (v := .ref (ms G 0 2)) (C := RX5) (T := TX5) (N := 21) hx hb hts (fun w9 h9 => List.mem_cons_of_mem _ (List.mem_append_right _ (h9))) hown hK hP (3 + 18 * 0 + (0)) (mv_S G (z3 (qT5 (su α 1 0 nS x) nS k) β (su γ 41 0 0 0)) (show 0 < 2 by decide)) rfl 3 (by decide) (va_Nw.use rfl (hN.1 (RX6, 53, RX5, "taste", "[I", RX6) (List.mem_of_getElem? (i := 3) rfl))) (fun _ h9 => h9) rfl dX6_build_67 ?_
            refine lv_bipush (v := 6) hx hb dX6_build_70 (by decide) ?_
            refine lv_aload_n hx hb dX6_build_72 rfl (lv_at hl 0 rfl) ?_
            refine va_get (D := G.1) (ci := 8) (v := .ref (ms G 0 0)) (C := RX6) (T := TX6) (N := 6) hx hb hts (fun w9 h9 => List.mem_cons_of_mem _ (List.mem_append_left _ (List.mem_append_right _ (h9)))) hown hK hP (0) (mw_M G (z3 (qT5 (su α 1 0 nS x) nS k) β (su γ 41 0 0 0))) rfl 4 (by decide) (hts (.fieldLink RX6 21 "OrganCensusModel" "s" "LOrganCensusModel$State;") (List.mem_of_getElem? (i := 2) rfl)) (fun _ h9 => h9) rfl dX6_build_73 ?_
            refine va_getN (D := G.1) (ci := 7) (v := .int ((qT5 (su α 1 0 nS x) nS k) 40 0 1)) (C := RX5) (T := TX5) (N := 21) hx hb hts (fun w9 h9 => List.mem_cons_of_mem _ (List.mem_append_right _ (h9))) hown hK hP (3 + 18 * 0 + (0)) (mv_S G (z3 (qT5 (su α 1 0 nS x) nS k) β (su γ 41 0 0 0)) (show 0 < 2 by decide)) rfl 1 (by decide) (va_Nw.use rfl (hN.1 (RX6, 32, RX5, "streets", "I", RX6) (List.mem_of_getElem? (i := 0) rfl))) (fun _ h9 => h9) rfl dX6_build_76 ?_
            refine lv_imul hx hb dX6_build_79 ?_
            refine lv_iload_n hx hb dX6_build_80 rfl (lv_at hl 2 rfl) ?_
            refine lv_iadd hx hb dX6_build_81 ?_
            refine lv_iconst (v := 5) hx hb dX6_build_82 (by decide) ?_
            refine o_iast (k := (6 * nS) + k) hx hb hK hP (mw_D G _ hI) hS (3 + 18 * 0 + (2)) 0 (mv_A2 G (z3 (qT5 (su α 1 0 nS x) nS k) β (su γ 41 0 0 0)) (show 0 < 2 by decide)) rfl (o_nadd (o_nmul (by decide) (by rw [qT5_k _ _ _ (by decide), su_k _ _ _ _ (by decide)]; exact hz1)) rfl) (by omega) (by decide) dX6_build_83 (fun H locs hP hD hS => ?_)
            have hP : va_P G.1 vwCl (mw G (z3 (su (qT5 (su α 1 0 nS x) nS k) 2 0 ((6 * nS) + k) 5) β (su γ 41 0 0 0))) H := by rw [← (mu_z0 (a := (qT5 (su α 1 0 nS x) nS k)) (b := β) (c := (su γ 41 0 0 0)) (τ' := su (qT5 (su α 1 0 nS x) nS k) 2 0 ((6 * nS) + k) 5) (mvu_A2 G (z3 (qT5 (su α 1 0 nS x) nS k) β (su γ 41 0 0 0)) (show 0 < 2 by decide) ((6 * nS) + k) 5))]; exact hP
            clear hD
            refine lv_iinc (v := nI (k + 1)) (lv' := [(2, .int (nI (k + 1))), (0, .ref (G.2.1 0)), (1, .int x)]) hx hb dX6_build_84 hl (k := 2) rfl (nI_1 k) (by decide) rfl (fun ls hl => ?_)
            refine lv_goto (tgt := 57) hx hb dX6_build_87 (by decide) ?_
            exact ih57 (k + 1) (by omega) _ (rfl) _ (rfl) _ _ hP hS ls (lv_sub hl [1, 2, 0] rfl)
      exact lp57 (6) 0 (by omega) _ (rfl) _ (rfl) _ _ hP hS ls (lv_sub hl [1, 2, 0] rfl)
    · have n30 := (o_neq (a := nS) (b := 6) hz.1 (by decide) (by omega) (by omega)).mp c30
      refine lv_aload_n hx hb dX6_build_33 rfl (lv_at hl 0 rfl) ?_
      refine lv_iconst (v := 2) hx hb dX6_build_34 (by decide) ?_
      refine o_cVmi (q0 := 0) (ci := 8) [.int 2] [] ⟨hx, hb, hml, hown, hts⟩ (m_X6_no l G hI α β (su γ 41 0 0 0) 2) (cwV 1 hts gX6_build_X6_no rfl rfl rfl (by decide +kernel) ⟨Nat.le_of_ble_eq_true rfl, Nat.le_of_ble_eq_true rfl⟩) hK hN hP hS rfl rfl (mw_M G (z3 α β (su γ 41 0 0 0))) rfl hl.1 rfl (Nat.le_of_ble_eq_true rfl) dX6_build_35 ⟨Nat.zero_le _, Nat.zero_le _⟩ (fun H locs hP hS => ?_)
      exact o_iretM hx hb hr hlocks hS dX6_build_38 (by first | (subst hk57; have hP9 := hP; simp (decide := true) only [cBuild, mT, c12, c30, n30, Bool.true_and, Bool.and_true, Bool.false_and, Bool.and_false, Bool.false_eq_true, if_true, if_false, reduceIte, not_true_eq_false, not_false_eq_true, and_true, and_false, true_and, false_and, Nat.reduceEqDiff, reduceCtorEq]; exact hP9) | (have hP9 := hP; simp (decide := true) only [cBuild, mT, c12, c30, n30, Bool.true_and, Bool.and_true, Bool.false_and, Bool.and_false, Bool.false_eq_true, if_true, if_false, reduceIte, not_true_eq_false, not_false_eq_true, and_true, and_false, true_and, false_and, Nat.reduceEqDiff, reduceCtorEq]; rw [su_su] at hP9; exact hP9)) (by first | (subst hk57; rw [su_s, nI_pred]; simp (decide := true) only [cBuild, c12, c30, n30, Bool.true_and, Bool.and_true, Bool.false_and, Bool.and_false, Bool.false_eq_true, if_true, if_false, reduceIte, not_true_eq_false, not_false_eq_true, and_true, and_false, true_and, false_and, Nat.reduceEqDiff, reduceCtorEq]) | (simp (decide := true) only [cBuild, c12, c30, n30, Bool.true_and, Bool.and_true, Bool.false_and, Bool.and_false, Bool.false_eq_true, if_true, if_false, reduceIte, not_true_eq_false, not_false_eq_true, and_true, and_false, true_and, false_and, Nat.reduceEqDiff, reduceCtorEq]))
  · have c12 := bI_eq.mp c12
    refine lv_aload_n hx hb dX6_build_15 rfl (lv_at hl 0 rfl) ?_
    refine lv_iconst (v := 1) hx hb dX6_build_16 (by decide) ?_
    refine o_cVmi (q0 := 0) (ci := 8) [.int 1] [] ⟨hx, hb, hml, hown, hts⟩ (m_X6_no l G hI α β (su γ 41 0 0 0) 1) (cwV 1 hts gX6_build_X6_no rfl rfl rfl (by decide +kernel) ⟨Nat.le_of_ble_eq_true rfl, Nat.le_of_ble_eq_true rfl⟩) hK hN hP hS rfl rfl (mw_M G (z3 α β (su γ 41 0 0 0))) rfl hl.1 rfl (Nat.le_of_ble_eq_true rfl) dX6_build_17 ⟨Nat.zero_le _, Nat.zero_le _⟩ (fun H locs hP hS => ?_)
    exact o_iretM hx hb hr hlocks hS dX6_build_20 (by first | (subst hk57; have hP9 := hP; simp (decide := true) only [cBuild, mT, c12, Bool.true_and, Bool.and_true, Bool.false_and, Bool.and_false, Bool.false_eq_true, if_true, if_false, reduceIte, not_true_eq_false, not_false_eq_true, and_true, and_false, true_and, false_and, Nat.reduceEqDiff, reduceCtorEq]; exact hP9) | (have hP9 := hP; simp (decide := true) only [cBuild, mT, c12, Bool.true_and, Bool.and_true, Bool.false_and, Bool.and_false, Bool.false_eq_true, if_true, if_false, reduceIte, not_true_eq_false, not_false_eq_true, and_true, and_false, true_and, false_and, Nat.reduceEqDiff, reduceCtorEq]; rw [su_su] at hP9; exact hP9)) (by first | (subst hk57; rw [su_s, nI_pred]; simp (decide := true) only [cBuild, c12, Bool.true_and, Bool.and_true, Bool.false_and, Bool.and_false, Bool.false_eq_true, if_true, if_false, reduceIte, not_true_eq_false, not_false_eq_true, and_true, and_false, true_and, false_and, Nat.reduceEqDiff, reduceCtorEq]) | (simp (decide := true) only [cBuild, c12, Bool.true_and, Bool.and_true, Bool.false_and, Bool.and_false, Bool.false_eq_true, if_true, if_false, reduceIte, not_true_eq_false, not_false_eq_true, and_true, and_false, true_and, false_and, Nat.reduceEqDiff, reduceCtorEq]))
set_option maxHeartbeats 4000000 in
set_option maxRecDepth 100000 in
theorem m_X6_setPassers (l : Launch) (G : oG) (hI : wl_I G.2.1 39) (α β γ : oT) (nS : Nat) (nO : Nat) (nH : Nat) (hz : qOK α nS nO nH) (x : Int32) (y : Int32) (z : Int32) : Met l yX6_setPassers wsX6_setPassers ({ frames := 2, cells := 0, slots := 0, locals := 43 } : Room) (va_Pc [.ref (G.2.1 0), .int x, .int y, .int z] (PW G (mw G (z3 α β γ)))) (oQ (some (.int (if cSetP nS x y z = 0 then γ 42 0 (24 * oN x + oN y) else 0))) (fun H9 => va_P G.1 vwCl (mw G (z3 α β (if cSetP nS x y z = 0 then su (mT γ 0) 42 0 (24 * oN x + oN y) z else mT γ (cSetP nS x y z)))) H9) (mA G)) 0 0 (mA G) := by
  refine o_body (cc := cX6_setPassers) (by decide +kernel) rfl (Nat.le_of_ble_eq_true rfl) ?_
  intro p e s m below meth c ls hx hb hml hr hlocks hown hts hP hK hN hl
  have hown : s.vm.findClass RX6 = some m.cls := hown
  have hl : lv_has ls 5 [(0, .ref (G.2.1 0)), (1, .int x), (2, .int y), (3, .int z)] := hl
  have hS : va_S (mA G) s.heap s.heap [] := va_S.rf
  obtain ⟨hz1, hz2, hz3, hz4, hz5, hz6, hz7, hz8⟩ := id hz
  refine lv_aload_n hx hb dX6_setPassers_0 rfl (lv_at hl 0 rfl) ?_
  refine lv_iconst (v := 0) hx hb dX6_setPassers_1 (by decide) ?_
  refine va_put (D := G.1) (ci := 8) (v := .int 0) (ty := .int) (C := RX6) (T := TX6) (N := 6) hx hb hts (fun w9 h9 => List.mem_cons_of_mem _ (List.mem_append_left _ (List.mem_append_right _ (h9)))) tyX6 tyX6_ok nmX6 hown hK hP (mw_D G _ hI) hS (0) (mw_M G (z3 α β γ)) rfl 0 (by decide) (hts (.fieldLink RX6 28 "OrganCensusModel" "thrown" "I") (List.mem_of_getElem? (i := 1) rfl)) (fun _ h9 => h9) rfl (by decide +kernel) rfl rfl (Nat.le_of_ble_eq_true rfl) dX6_setPassers_2 (fun H locs hP hD hS => ?_)
  have hP : va_P G.1 vwCl (mw G (z3 α β (su γ 41 0 0 0))) H := by rw [← (mw_zP (a := α) (b := β) (c := γ) (τ' := su γ 41 0 0 0) (mw_uM0 G (z3 α β γ) 0))]; exact hP
  clear hD
  refine lv_aload_n hx hb dX6_setPassers_5 rfl (lv_at hl 0 rfl) ?_
  refine lv_iload_n hx hb dX6_setPassers_6 rfl (lv_at hl 1 rfl) ?_
  refine o_cVi (q0 := 0) (ci := 8) [.int x] [] ⟨hx, hb, hml, hown, hts⟩ (m_X6_isStreet l G α β (su γ 41 0 0 0) nS nO nH hz x) (cwV 1 hts gX6_setPassers_X6_isStreet rfl rfl rfl (by decide +kernel) ⟨Nat.le_of_ble_eq_true rfl, Nat.le_of_ble_eq_true rfl⟩) hK hN hP rfl rfl (mw_M G (z3 α β (su γ 41 0 0 0))) rfl hl.1 rfl (Nat.le_of_ble_eq_true rfl) dX6_setPassers_7 ⟨Nat.zero_le _, Nat.zero_le _⟩ ?_
  refine lv_if_eq (tgt := 23) hx hb dX6_setPassers_10 (by decide) (fun c10 => ?_) (fun c10 => ?_)
  · have c10 := bI_eq.mp c10
    refine lv_aload_n hx hb dX6_setPassers_23 rfl (lv_at hl 0 rfl) ?_
    refine lv_iconst (v := 1) hx hb dX6_setPassers_24 (by decide) ?_
    refine o_cVmi (q0 := 0) (ci := 8) [.int 1] [] ⟨hx, hb, hml, hown, hts⟩ (m_X6_no l G hI α β (su γ 41 0 0 0) 1) (cwV 1 hts gX6_setPassers_X6_no rfl rfl rfl (by decide +kernel) ⟨Nat.le_of_ble_eq_true rfl, Nat.le_of_ble_eq_true rfl⟩) hK hN hP hS rfl rfl (mw_M G (z3 α β (su γ 41 0 0 0))) rfl hl.1 rfl (Nat.le_of_ble_eq_true rfl) dX6_setPassers_25 ⟨Nat.zero_le _, Nat.zero_le _⟩ (fun H locs hP hS => ?_)
    exact o_iretM hx hb hr hlocks hS dX6_setPassers_28 (by have hP9 := hP; simp (decide := true) only [cSetP, mT, c10, Bool.true_and, Bool.and_true, Bool.false_and, Bool.and_false, Bool.false_eq_true, if_true, if_false, reduceIte, not_true_eq_false, not_false_eq_true, and_true, and_false, true_and, false_and, Nat.reduceEqDiff, reduceCtorEq]; first | exact hP9 | (rw [su_su] at hP9; exact hP9)) (by simp (decide := true) only [cSetP, mT, c10, Bool.true_and, Bool.and_true, Bool.false_and, Bool.and_false, Bool.false_eq_true, if_true, if_false, reduceIte, not_true_eq_false, not_false_eq_true, and_true, and_false, true_and, false_and, Nat.reduceEqDiff, reduceCtorEq]; try rfl)
  · have c10 := bI_ne.mp c10
    have n10 := oIn_lt (by omega) c10
    refine lv_iload_n hx hb dX6_setPassers_13 rfl (lv_at hl 2 rfl) ?_
    refine lv_iconst (v := 0) hx hb dX6_setPassers_14 (by decide) ?_
    refine lv_bipush (v := 23) hx hb dX6_setPassers_15 (by decide) ?_
    refine o_cSi [.int y, .int 0, .int 23] [] ⟨hx, hb, hml, hown, hts⟩ (m_X6_isIn l G (mw G (z3 α β (su γ 41 0 0 0))) y 0 23) (va_cwS 3 hts gX6_setPassers_X6_isIn rfl rfl rfl (by decide +kernel) ⟨Nat.le_of_ble_eq_true rfl, Nat.le_of_ble_eq_true rfl⟩) hK hN hP rfl hl.1 rfl (Nat.le_of_ble_eq_true rfl) dX6_setPassers_17 ⟨Nat.zero_le _, Nat.zero_le _⟩ ?_
    refine lv_if_ne (tgt := 29) hx hb dX6_setPassers_20 (by decide) (fun c20 => ?_) (fun c20 => ?_)
    · have c20 := bI_ne.mp c20
      have n20 := oRg_le (n := 23) (by decide) c20
      refine lv_iload_n hx hb dX6_setPassers_29 rfl (lv_at hl 3 rfl) ?_
      refine lv_iconst (v := 0) hx hb dX6_setPassers_30 (by decide) ?_
      refine lv_bipush (v := 99) hx hb dX6_setPassers_31 (by decide) ?_
      refine o_cSi [.int z, .int 0, .int 99] [] ⟨hx, hb, hml, hown, hts⟩ (m_X6_isIn l G (mw G (z3 α β (su γ 41 0 0 0))) z 0 99) (va_cwS 3 hts gX6_setPassers_X6_isIn rfl rfl rfl (by decide +kernel) ⟨Nat.le_of_ble_eq_true rfl, Nat.le_of_ble_eq_true rfl⟩) hK hN hP rfl hl.1 rfl (Nat.le_of_ble_eq_true rfl) dX6_setPassers_33 ⟨Nat.zero_le _, Nat.zero_le _⟩ ?_
      refine lv_if_ne (tgt := 45) hx hb dX6_setPassers_36 (by decide) (fun c36 => ?_) (fun c36 => ?_)
      · have c36 := bI_ne.mp c36
        have n36 := oRg_le (n := 99) (by decide) c36
        refine lv_aload_n hx hb dX6_setPassers_45 rfl (lv_at hl 0 rfl) ?_
        refine va_get (D := G.1) (ci := 8) (v := .ref (G.2.1 1)) (C := RX6) (T := TX6) (N := 6) hx hb hts (fun w9 h9 => List.mem_cons_of_mem _ (List.mem_append_left _ (List.mem_append_right _ (h9)))) hown hK hP (0) (mw_M G (z3 α β (su γ 41 0 0 0))) rfl 1 (by decide) (hts (.fieldLink RX6 9 "OrganCensusModel" "passers" "[I") (List.mem_of_getElem? (i := 2) rfl)) (fun _ h9 => h9) rfl dX6_setPassers_46 ?_
        refine lv_bipush (v := 24) hx hb dX6_setPassers_49 (by decide) ?_
        refine lv_iload_n hx hb dX6_setPassers_51 rfl (lv_at hl 1 rfl) ?_
        refine lv_imul hx hb dX6_setPassers_52 ?_
        refine lv_iload_n hx hb dX6_setPassers_53 rfl (lv_at hl 2 rfl) ?_
        refine lv_iadd hx hb dX6_setPassers_54 ?_
        refine o_iald (k := (24 * (oN x)) + (oN y)) hx hb hK hP (1) 0 (mw_MP G (z3 α β (su γ 41 0 0 0))) rfl (o_nadd (o_nmul (by decide) (oIn_x c10)) (oRg_x c20)) (by omega) (by decide) dX6_setPassers_55 ?_
        refine lv_istore (lv' := [(4, .int ((su γ 41 0 0 0) 42 0 ((24 * (oN x)) + (oN y)))), (0, .ref (G.2.1 0)), (1, .int x), (2, .int y), (3, .int z)]) hx hb dX6_setPassers_56 hl (by decide) rfl (fun ls hl => ?_)
        refine lv_aload_n hx hb dX6_setPassers_58 rfl (lv_at hl 1 rfl) ?_
        refine va_get (D := G.1) (ci := 8) (v := .ref (G.2.1 1)) (C := RX6) (T := TX6) (N := 6) hx hb hts (fun w9 h9 => List.mem_cons_of_mem _ (List.mem_append_left _ (List.mem_append_right _ (h9)))) hown hK hP (0) (mw_M G (z3 α β (su γ 41 0 0 0))) rfl 1 (by decide) (hts (.fieldLink RX6 9 "OrganCensusModel" "passers" "[I") (List.mem_of_getElem? (i := 2) rfl)) (fun _ h9 => h9) rfl dX6_setPassers_59 ?_
        refine lv_bipush (v := 24) hx hb dX6_setPassers_62 (by decide) ?_
        refine lv_iload_n hx hb dX6_setPassers_64 rfl (lv_at hl 2 rfl) ?_
        refine lv_imul hx hb dX6_setPassers_65 ?_
        refine lv_iload_n hx hb dX6_setPassers_66 rfl (lv_at hl 3 rfl) ?_
        refine lv_iadd hx hb dX6_setPassers_67 ?_
        refine lv_iload_n hx hb dX6_setPassers_68 rfl (lv_at hl 4 rfl) ?_
        refine o_iast (k := (24 * (oN x)) + (oN y)) hx hb hK hP (mw_D G _ hI) hS (1) 0 (mw_MP G (z3 α β (su γ 41 0 0 0))) rfl (o_nadd (o_nmul (by decide) (oIn_x c10)) (oRg_x c20)) (by omega) (by decide) dX6_setPassers_69 (fun H locs hP hD hS => ?_)
        have hP : va_P G.1 vwCl (mw G (z3 α β (su (su γ 41 0 0 0) 42 0 ((24 * (oN x)) + (oN y)) z))) H := by rw [← (mw_zP (a := α) (b := β) (c := (su γ 41 0 0 0)) (τ' := su (su γ 41 0 0 0) 42 0 ((24 * (oN x)) + (oN y)) z) (mw_uMP G (z3 α β (su γ 41 0 0 0)) ((24 * (oN x)) + (oN y)) z))]; exact hP
        clear hD
        refine lv_iload hx hb dX6_setPassers_70 (lv_at hl 0 rfl) ?_
        exact o_iretM hx hb hr hlocks hS dX6_setPassers_72 (by have hP9 := hP; simp (decide := true) only [cSetP, mT, c10, c20, c36, Bool.true_and, Bool.and_true, Bool.false_and, Bool.and_false, Bool.false_eq_true, if_true, if_false, reduceIte, not_true_eq_false, not_false_eq_true, and_true, and_false, true_and, false_and, Nat.reduceEqDiff, reduceCtorEq]; first | exact hP9 | (rw [su_su] at hP9; exact hP9)) (by simp (decide := true) only [cSetP, mT, c10, c20, c36, Bool.true_and, Bool.and_true, Bool.false_and, Bool.and_false, Bool.false_eq_true, if_true, if_false, reduceIte, not_true_eq_false, not_false_eq_true, and_true, and_false, true_and, false_and, Nat.reduceEqDiff, reduceCtorEq]; try rfl)
      · have c36 := bI_eq.mp c36
        refine lv_aload_n hx hb dX6_setPassers_39 rfl (lv_at hl 0 rfl) ?_
        refine lv_iconst (v := 2) hx hb dX6_setPassers_40 (by decide) ?_
        refine o_cVmi (q0 := 0) (ci := 8) [.int 2] [] ⟨hx, hb, hml, hown, hts⟩ (m_X6_no l G hI α β (su γ 41 0 0 0) 2) (cwV 1 hts gX6_setPassers_X6_no rfl rfl rfl (by decide +kernel) ⟨Nat.le_of_ble_eq_true rfl, Nat.le_of_ble_eq_true rfl⟩) hK hN hP hS rfl rfl (mw_M G (z3 α β (su γ 41 0 0 0))) rfl hl.1 rfl (Nat.le_of_ble_eq_true rfl) dX6_setPassers_41 ⟨Nat.zero_le _, Nat.zero_le _⟩ (fun H locs hP hS => ?_)
        exact o_iretM hx hb hr hlocks hS dX6_setPassers_44 (by have hP9 := hP; simp (decide := true) only [cSetP, mT, c10, c20, c36, Bool.true_and, Bool.and_true, Bool.false_and, Bool.and_false, Bool.false_eq_true, if_true, if_false, reduceIte, not_true_eq_false, not_false_eq_true, and_true, and_false, true_and, false_and, Nat.reduceEqDiff, reduceCtorEq]; first | exact hP9 | (rw [su_su] at hP9; exact hP9)) (by simp (decide := true) only [cSetP, mT, c10, c20, c36, Bool.true_and, Bool.and_true, Bool.false_and, Bool.and_false, Bool.false_eq_true, if_true, if_false, reduceIte, not_true_eq_false, not_false_eq_true, and_true, and_false, true_and, false_and, Nat.reduceEqDiff, reduceCtorEq]; try rfl)
    · have c20 := bI_eq.mp c20
      refine lv_aload_n hx hb dX6_setPassers_23 rfl (lv_at hl 0 rfl) ?_
      refine lv_iconst (v := 1) hx hb dX6_setPassers_24 (by decide) ?_
      refine o_cVmi (q0 := 0) (ci := 8) [.int 1] [] ⟨hx, hb, hml, hown, hts⟩ (m_X6_no l G hI α β (su γ 41 0 0 0) 1) (cwV 1 hts gX6_setPassers_X6_no rfl rfl rfl (by decide +kernel) ⟨Nat.le_of_ble_eq_true rfl, Nat.le_of_ble_eq_true rfl⟩) hK hN hP hS rfl rfl (mw_M G (z3 α β (su γ 41 0 0 0))) rfl hl.1 rfl (Nat.le_of_ble_eq_true rfl) dX6_setPassers_25 ⟨Nat.zero_le _, Nat.zero_le _⟩ (fun H locs hP hS => ?_)
      exact o_iretM hx hb hr hlocks hS dX6_setPassers_28 (by have hP9 := hP; simp (decide := true) only [cSetP, mT, c10, c20, Bool.true_and, Bool.and_true, Bool.false_and, Bool.and_false, Bool.false_eq_true, if_true, if_false, reduceIte, not_true_eq_false, not_false_eq_true, and_true, and_false, true_and, false_and, Nat.reduceEqDiff, reduceCtorEq]; first | exact hP9 | (rw [su_su] at hP9; exact hP9)) (by simp (decide := true) only [cSetP, mT, c10, c20, Bool.true_and, Bool.and_true, Bool.false_and, Bool.and_false, Bool.false_eq_true, if_true, if_false, reduceIte, not_true_eq_false, not_false_eq_true, and_true, and_false, true_and, false_and, Nat.reduceEqDiff, reduceCtorEq]; try rfl)
set_option maxHeartbeats 4000000 in
set_option maxRecDepth 100000 in
theorem m_X6_setTaste (l : Launch) (G : oG) (hI : wl_I G.2.1 39) (α β γ : oT) (nS : Nat) (nO : Nat) (nH : Nat) (hz : qOK α nS nO nH) (x : Int32) (y : Int32) (z : Int32) : Met l yX6_setTaste wsX6_setTaste ({ frames := 2, cells := 0, slots := 0, locals := 43 } : Room) (va_Pc [.ref (G.2.1 0), .int x, .int y, .int z] (PW G (mw G (z3 α β γ)))) (oQ (some (.int (if cSetT nS x y z = 0 then α 2 0 (6 * oN x + oN y) else 0))) (fun H9 => va_P G.1 vwCl (mw G (z3 (if cSetT nS x y z = 0 then su α 2 0 (6 * oN x + oN y) z else α) β (mT γ (cSetT nS x y z)))) H9) (mA G)) 0 0 (mA G) := by
  refine o_body (cc := cX6_setTaste) (by decide +kernel) rfl (Nat.le_of_ble_eq_true rfl) ?_
  intro p e s m below meth c ls hx hb hml hr hlocks hown hts hP hK hN hl
  have hown : s.vm.findClass RX6 = some m.cls := hown
  have hl : lv_has ls 5 [(0, .ref (G.2.1 0)), (1, .int x), (2, .int y), (3, .int z)] := hl
  have hS : va_S (mA G) s.heap s.heap [] := va_S.rf
  obtain ⟨hz1, hz2, hz3, hz4, hz5, hz6, hz7, hz8⟩ := id hz
  refine lv_aload_n hx hb dX6_setTaste_0 rfl (lv_at hl 0 rfl) ?_
  refine lv_iconst (v := 0) hx hb dX6_setTaste_1 (by decide) ?_
  refine va_put (D := G.1) (ci := 8) (v := .int 0) (ty := .int) (C := RX6) (T := TX6) (N := 6) hx hb hts (fun w9 h9 => List.mem_cons_of_mem _ (List.mem_append_left _ (List.mem_append_right _ (h9)))) tyX6 tyX6_ok nmX6 hown hK hP (mw_D G _ hI) hS (0) (mw_M G (z3 α β γ)) rfl 0 (by decide) (hts (.fieldLink RX6 28 "OrganCensusModel" "thrown" "I") (List.mem_of_getElem? (i := 1) rfl)) (fun _ h9 => h9) rfl (by decide +kernel) rfl rfl (Nat.le_of_ble_eq_true rfl) dX6_setTaste_2 (fun H locs hP hD hS => ?_)
  have hP : va_P G.1 vwCl (mw G (z3 α β (su γ 41 0 0 0))) H := by rw [← (mw_zP (a := α) (b := β) (c := γ) (τ' := su γ 41 0 0 0) (mw_uM0 G (z3 α β γ) 0))]; exact hP
  clear hD
  refine lv_aload_n hx hb dX6_setTaste_5 rfl (lv_at hl 0 rfl) ?_
  refine lv_iload_n hx hb dX6_setTaste_6 rfl (lv_at hl 1 rfl) ?_
  refine o_cVi (q0 := 0) (ci := 8) [.int x] [] ⟨hx, hb, hml, hown, hts⟩ (m_X6_isStreet l G α β (su γ 41 0 0 0) nS nO nH hz x) (cwV 1 hts gX6_setTaste_X6_isStreet rfl rfl rfl (by decide +kernel) ⟨Nat.le_of_ble_eq_true rfl, Nat.le_of_ble_eq_true rfl⟩) hK hN hP rfl rfl (mw_M G (z3 α β (su γ 41 0 0 0))) rfl hl.1 rfl (Nat.le_of_ble_eq_true rfl) dX6_setTaste_7 ⟨Nat.zero_le _, Nat.zero_le _⟩ ?_
  refine lv_if_eq (tgt := 22) hx hb dX6_setTaste_10 (by decide) (fun c10 => ?_) (fun c10 => ?_)
  · have c10 := bI_eq.mp c10
    refine lv_aload_n hx hb dX6_setTaste_22 rfl (lv_at hl 0 rfl) ?_
    refine lv_iconst (v := 1) hx hb dX6_setTaste_23 (by decide) ?_
    refine o_cVmi (q0 := 0) (ci := 8) [.int 1] [] ⟨hx, hb, hml, hown, hts⟩ (m_X6_no l G hI α β (su γ 41 0 0 0) 1) (cwV 1 hts gX6_setTaste_X6_no rfl rfl rfl (by decide +kernel) ⟨Nat.le_of_ble_eq_true rfl, Nat.le_of_ble_eq_true rfl⟩) hK hN hP hS rfl rfl (mw_M G (z3 α β (su γ 41 0 0 0))) rfl hl.1 rfl (Nat.le_of_ble_eq_true rfl) dX6_setTaste_24 ⟨Nat.zero_le _, Nat.zero_le _⟩ (fun H locs hP hS => ?_)
    exact o_iretM hx hb hr hlocks hS dX6_setTaste_27 (by have hP9 := hP; simp (decide := true) only [cSetT, mT, c10, Bool.true_and, Bool.and_true, Bool.false_and, Bool.and_false, Bool.false_eq_true, if_true, if_false, reduceIte, not_true_eq_false, not_false_eq_true, and_true, and_false, true_and, false_and, Nat.reduceEqDiff, reduceCtorEq]; first | exact hP9 | (rw [su_su] at hP9; exact hP9)) (by simp (decide := true) only [cSetT, mT, c10, Bool.true_and, Bool.and_true, Bool.false_and, Bool.and_false, Bool.false_eq_true, if_true, if_false, reduceIte, not_true_eq_false, not_false_eq_true, and_true, and_false, true_and, false_and, Nat.reduceEqDiff, reduceCtorEq]; try rfl)
  · have c10 := bI_ne.mp c10
    have n10 := oIn_lt (by omega) c10
    refine lv_iload_n hx hb dX6_setTaste_13 rfl (lv_at hl 2 rfl) ?_
    refine lv_iconst (v := 0) hx hb dX6_setTaste_14 (by decide) ?_
    refine lv_iconst (v := 5) hx hb dX6_setTaste_15 (by decide) ?_
    refine o_cSi [.int y, .int 0, .int 5] [] ⟨hx, hb, hml, hown, hts⟩ (m_X6_isIn l G (mw G (z3 α β (su γ 41 0 0 0))) y 0 5) (va_cwS 3 hts gX6_setTaste_X6_isIn rfl rfl rfl (by decide +kernel) ⟨Nat.le_of_ble_eq_true rfl, Nat.le_of_ble_eq_true rfl⟩) hK hN hP rfl hl.1 rfl (Nat.le_of_ble_eq_true rfl) dX6_setTaste_16 ⟨Nat.zero_le _, Nat.zero_le _⟩ ?_
    refine lv_if_ne (tgt := 28) hx hb dX6_setTaste_19 (by decide) (fun c19 => ?_) (fun c19 => ?_)
    · have c19 := bI_ne.mp c19
      have n19 := oRg_le (n := 5) (by decide) c19
      refine lv_iload_n hx hb dX6_setTaste_28 rfl (lv_at hl 3 rfl) ?_
      refine lv_iconst (v := 0) hx hb dX6_setTaste_29 (by decide) ?_
      refine lv_bipush (v := 9) hx hb dX6_setTaste_30 (by decide) ?_
      refine o_cSi [.int z, .int 0, .int 9] [] ⟨hx, hb, hml, hown, hts⟩ (m_X6_isIn l G (mw G (z3 α β (su γ 41 0 0 0))) z 0 9) (va_cwS 3 hts gX6_setTaste_X6_isIn rfl rfl rfl (by decide +kernel) ⟨Nat.le_of_ble_eq_true rfl, Nat.le_of_ble_eq_true rfl⟩) hK hN hP rfl hl.1 rfl (Nat.le_of_ble_eq_true rfl) dX6_setTaste_32 ⟨Nat.zero_le _, Nat.zero_le _⟩ ?_
      refine lv_if_ne (tgt := 44) hx hb dX6_setTaste_35 (by decide) (fun c35 => ?_) (fun c35 => ?_)
      · have c35 := bI_ne.mp c35
        have n35 := oRg_le (n := 9) (by decide) c35
        refine lv_aload_n hx hb dX6_setTaste_44 rfl (lv_at hl 0 rfl) ?_
        refine va_get (D := G.1) (ci := 8) (v := .ref (ms G 0 0)) (C := RX6) (T := TX6) (N := 6) hx hb hts (fun w9 h9 => List.mem_cons_of_mem _ (List.mem_append_left _ (List.mem_append_right _ (h9)))) hown hK hP (0) (mw_M G (z3 α β (su γ 41 0 0 0))) rfl 4 (by decide) (hts (.fieldLink RX6 21 "OrganCensusModel" "s" "LOrganCensusModel$State;") (List.mem_of_getElem? (i := 2) rfl)) (fun _ h9 => h9) rfl dX6_setTaste_45 ?_
        refine va_getN (D := G.1) (ci := 7) (v := .ref (ms G 0 2)) (C := RX5) (T := TX5) (N := 21) hx hb hts (fun w9 h9 => List.mem_cons_of_mem _ (List.mem_append_right _ (h9))) hown hK hP (3 + 18 * 0 + (0)) (mv_S G (z3 α β (su γ 41 0 0 0)) (show 0 < 2 by decide)) rfl 3 (by decide) (va_Nw.use rfl (hN.1 (RX6, 53, RX5, "taste", "[I", RX6) (List.mem_of_getElem? (i := 3) rfl))) (fun _ h9 => h9) rfl dX6_setTaste_48 ?_
        refine lv_bipush (v := 6) hx hb dX6_setTaste_51 (by decide) ?_
        refine lv_iload_n hx hb dX6_setTaste_53 rfl (lv_at hl 1 rfl) ?_
        refine lv_imul hx hb dX6_setTaste_54 ?_
        refine lv_iload_n hx hb dX6_setTaste_55 rfl (lv_at hl 2 rfl) ?_
        refine lv_iadd hx hb dX6_setTaste_56 ?_
        refine o_iald (k := (6 * (oN x)) + (oN y)) hx hb hK hP (3 + 18 * 0 + (2)) 0 (mv_A2 G (z3 α β (su γ 41 0 0 0)) (show 0 < 2 by decide)) rfl (o_nadd (o_nmul (by decide) (oIn_x c10)) (oRg_x c19)) (by omega) (by decide) dX6_setTaste_57 ?_
        refine lv_istore (lv' := [(4, .int (α 2 0 ((6 * (oN x)) + (oN y)))), (0, .ref (G.2.1 0)), (1, .int x), (2, .int y), (3, .int z)]) hx hb dX6_setTaste_58 hl (by decide) rfl (fun ls hl => ?_)
        refine lv_aload_n hx hb dX6_setTaste_60 rfl (lv_at hl 1 rfl) ?_
        refine va_get (D := G.1) (ci := 8) (v := .ref (ms G 0 0)) (C := RX6) (T := TX6) (N := 6) hx hb hts (fun w9 h9 => List.mem_cons_of_mem _ (List.mem_append_left _ (List.mem_append_right _ (h9)))) hown hK hP (0) (mw_M G (z3 α β (su γ 41 0 0 0))) rfl 4 (by decide) (hts (.fieldLink RX6 21 "OrganCensusModel" "s" "LOrganCensusModel$State;") (List.mem_of_getElem? (i := 2) rfl)) (fun _ h9 => h9) rfl dX6_setTaste_61 ?_
        refine va_getN (D := G.1) (ci := 7) (v := .ref (ms G 0 2)) (C := RX5) (T := TX5) (N := 21) hx hb hts (fun w9 h9 => List.mem_cons_of_mem _ (List.mem_append_right _ (h9))) hown hK hP (3 + 18 * 0 + (0)) (mv_S G (z3 α β (su γ 41 0 0 0)) (show 0 < 2 by decide)) rfl 3 (by decide) (va_Nw.use rfl (hN.1 (RX6, 53, RX5, "taste", "[I", RX6) (List.mem_of_getElem? (i := 3) rfl))) (fun _ h9 => h9) rfl dX6_setTaste_64 ?_
        refine lv_bipush (v := 6) hx hb dX6_setTaste_67 (by decide) ?_
        refine lv_iload_n hx hb dX6_setTaste_69 rfl (lv_at hl 2 rfl) ?_
        refine lv_imul hx hb dX6_setTaste_70 ?_
        refine lv_iload_n hx hb dX6_setTaste_71 rfl (lv_at hl 3 rfl) ?_
        refine lv_iadd hx hb dX6_setTaste_72 ?_
        refine lv_iload_n hx hb dX6_setTaste_73 rfl (lv_at hl 4 rfl) ?_
        refine o_iast (k := (6 * (oN x)) + (oN y)) hx hb hK hP (mw_D G _ hI) hS (3 + 18 * 0 + (2)) 0 (mv_A2 G (z3 α β (su γ 41 0 0 0)) (show 0 < 2 by decide)) rfl (o_nadd (o_nmul (by decide) (oIn_x c10)) (oRg_x c19)) (by omega) (by decide) dX6_setTaste_74 (fun H locs hP hD hS => ?_)
        have hP : va_P G.1 vwCl (mw G (z3 (su α 2 0 ((6 * (oN x)) + (oN y)) z) β (su γ 41 0 0 0))) H := by rw [← (mu_z0 (a := α) (b := β) (c := (su γ 41 0 0 0)) (τ' := su α 2 0 ((6 * (oN x)) + (oN y)) z) (mvu_A2 G (z3 α β (su γ 41 0 0 0)) (show 0 < 2 by decide) ((6 * (oN x)) + (oN y)) z))]; exact hP
        clear hD
        refine lv_iload hx hb dX6_setTaste_75 (lv_at hl 0 rfl) ?_
        exact o_iretM hx hb hr hlocks hS dX6_setTaste_77 (by have hP9 := hP; simp (decide := true) only [cSetT, mT, c10, c19, c35, Bool.true_and, Bool.and_true, Bool.false_and, Bool.and_false, Bool.false_eq_true, if_true, if_false, reduceIte, not_true_eq_false, not_false_eq_true, and_true, and_false, true_and, false_and, Nat.reduceEqDiff, reduceCtorEq]; first | exact hP9 | (rw [su_su] at hP9; exact hP9)) (by simp (decide := true) only [cSetT, mT, c10, c19, c35, Bool.true_and, Bool.and_true, Bool.false_and, Bool.and_false, Bool.false_eq_true, if_true, if_false, reduceIte, not_true_eq_false, not_false_eq_true, and_true, and_false, true_and, false_and, Nat.reduceEqDiff, reduceCtorEq]; try rfl)
      · have c35 := bI_eq.mp c35
        refine lv_aload_n hx hb dX6_setTaste_38 rfl (lv_at hl 0 rfl) ?_
        refine lv_iconst (v := 2) hx hb dX6_setTaste_39 (by decide) ?_
        refine o_cVmi (q0 := 0) (ci := 8) [.int 2] [] ⟨hx, hb, hml, hown, hts⟩ (m_X6_no l G hI α β (su γ 41 0 0 0) 2) (cwV 1 hts gX6_setTaste_X6_no rfl rfl rfl (by decide +kernel) ⟨Nat.le_of_ble_eq_true rfl, Nat.le_of_ble_eq_true rfl⟩) hK hN hP hS rfl rfl (mw_M G (z3 α β (su γ 41 0 0 0))) rfl hl.1 rfl (Nat.le_of_ble_eq_true rfl) dX6_setTaste_40 ⟨Nat.zero_le _, Nat.zero_le _⟩ (fun H locs hP hS => ?_)
        exact o_iretM hx hb hr hlocks hS dX6_setTaste_43 (by have hP9 := hP; simp (decide := true) only [cSetT, mT, c10, c19, c35, Bool.true_and, Bool.and_true, Bool.false_and, Bool.and_false, Bool.false_eq_true, if_true, if_false, reduceIte, not_true_eq_false, not_false_eq_true, and_true, and_false, true_and, false_and, Nat.reduceEqDiff, reduceCtorEq]; first | exact hP9 | (rw [su_su] at hP9; exact hP9)) (by simp (decide := true) only [cSetT, mT, c10, c19, c35, Bool.true_and, Bool.and_true, Bool.false_and, Bool.and_false, Bool.false_eq_true, if_true, if_false, reduceIte, not_true_eq_false, not_false_eq_true, and_true, and_false, true_and, false_and, Nat.reduceEqDiff, reduceCtorEq]; try rfl)
    · have c19 := bI_eq.mp c19
      refine lv_aload_n hx hb dX6_setTaste_22 rfl (lv_at hl 0 rfl) ?_
      refine lv_iconst (v := 1) hx hb dX6_setTaste_23 (by decide) ?_
      refine o_cVmi (q0 := 0) (ci := 8) [.int 1] [] ⟨hx, hb, hml, hown, hts⟩ (m_X6_no l G hI α β (su γ 41 0 0 0) 1) (cwV 1 hts gX6_setTaste_X6_no rfl rfl rfl (by decide +kernel) ⟨Nat.le_of_ble_eq_true rfl, Nat.le_of_ble_eq_true rfl⟩) hK hN hP hS rfl rfl (mw_M G (z3 α β (su γ 41 0 0 0))) rfl hl.1 rfl (Nat.le_of_ble_eq_true rfl) dX6_setTaste_24 ⟨Nat.zero_le _, Nat.zero_le _⟩ (fun H locs hP hS => ?_)
      exact o_iretM hx hb hr hlocks hS dX6_setTaste_27 (by have hP9 := hP; simp (decide := true) only [cSetT, mT, c10, c19, Bool.true_and, Bool.and_true, Bool.false_and, Bool.and_false, Bool.false_eq_true, if_true, if_false, reduceIte, not_true_eq_false, not_false_eq_true, and_true, and_false, true_and, false_and, Nat.reduceEqDiff, reduceCtorEq]; first | exact hP9 | (rw [su_su] at hP9; exact hP9)) (by simp (decide := true) only [cSetT, mT, c10, c19, Bool.true_and, Bool.and_true, Bool.false_and, Bool.and_false, Bool.false_eq_true, if_true, if_false, reduceIte, not_true_eq_false, not_false_eq_true, and_true, and_false, true_and, false_and, Nat.reduceEqDiff, reduceCtorEq]; try rfl)
set_option maxHeartbeats 4000000 in
set_option maxRecDepth 100000 in
theorem m_X6_streetTold (l : Launch) (G : oG) (α β γ : oT) (nS : Nat) (nO : Nat) (nH : Nat) (hz : qOK α nS nO nH) (r : Nat) (ar : Int32) (er : ar = nI r) (hrS : r < nS) (k : Nat) (ak : Int32) (ek : ak = nI k) (hk : k < 8) : Met l yX6_streetTold wsX6_streetTold ({ frames := 5, cells := 0, slots := 0, locals := 119 } : Room) (va_Pc [.ref (G.2.1 0), .int ar, .int ak] (PW G (mw G (z3 α β γ)))) (oR (some (.int (qStT α γ nO nH r k)))) 0 0 (fun _ => False) := by
  subst er
  subst ek
  refine o_body (cc := cX6_streetTold) (by decide +kernel) rfl (Nat.le_of_ble_eq_true rfl) ?_
  intro p e s m below meth c ls hx hb hml hr hlocks hown hts hP hK hN hl
  have hown : s.vm.findClass RX6 = some m.cls := hown
  have hl : lv_has ls 3 [(0, .ref (G.2.1 0)), (1, .int (nI r)), (2, .int (nI k))] := hl
  obtain ⟨hz1, hz2, hz3, hz4, hz5, hz6, hz7, hz8⟩ := id hz
  refine lv_iload_n hx hb dX6_streetTold_0 rfl (lv_at hl 2 rfl) ?_
  rcases (show k = 0 ∨ k = 1 ∨ k = 2 ∨ k = 3 ∨ k = 4 ∨ k = 5 ∨ k = 6 ∨ k = 7 by omega) with rfl | rfl | rfl | rfl | rfl | rfl | rfl | rfl
  · refine lv_tableIn (off := 39) (tgt := 40) hx hb dX6_streetTold_1 (by decide) (by decide) (by decide) (by decide) ?_
    refine lv_aload_n hx hb dX6_streetTold_40 rfl (lv_at hl 0 rfl) ?_
    refine va_get (D := G.1) (ci := 8) (v := .ref (ms G 0 0)) (C := RX6) (T := TX6) (N := 6) hx hb hts (fun w9 h9 => List.mem_cons_of_mem _ (List.mem_append_left _ (List.mem_append_right _ (h9)))) hown hK hP (0) (mw_M G (z3 α β γ)) rfl 4 (by decide) (hts (.fieldLink RX6 21 "OrganCensusModel" "s" "LOrganCensusModel$State;") (List.mem_of_getElem? (i := 1) rfl)) (fun _ h9 => h9) rfl dX6_streetTold_41 ?_
    refine va_getN (D := G.1) (ci := 7) (v := .ref (ms G 0 1)) (C := RX5) (T := TX5) (N := 21) hx hb hts (fun w9 h9 => List.mem_cons_of_mem _ (List.mem_append_right _ (h9))) hown hK hP (3 + 18 * 0 + (0)) (mv_S G (z3 α β γ) (show 0 < 2 by decide)) rfl 2 (by decide) (va_Nw.use rfl (hN.1 (RX6, 46, RX5, "pitches", "[I", RX6) (List.mem_of_getElem? (i := 2) rfl))) (fun _ h9 => h9) rfl dX6_streetTold_44 ?_
    refine lv_iload_n hx hb dX6_streetTold_47 rfl (lv_at hl 1 rfl) ?_
    refine o_iald (k := r) hx hb hK hP (3 + 18 * 0 + (1)) 0 (mv_A1 G (z3 α β γ) (show 0 < 2 by decide)) rfl rfl (by omega) (by decide) dX6_streetTold_48 ?_
    exact o_iretR hx hb hr hlocks dX6_streetTold_49 (by first | rfl | exact absurd (by decide) c118 | exact absurd c118 (by decide))
  · refine lv_tableIn (off := 49) (tgt := 50) hx hb dX6_streetTold_1 (by decide) (by decide) (by decide) (by decide) ?_
    refine lv_aload_n hx hb dX6_streetTold_50 rfl (lv_at hl 0 rfl) ?_
    refine va_get (D := G.1) (ci := 8) (v := .ref (G.2.1 1)) (C := RX6) (T := TX6) (N := 6) hx hb hts (fun w9 h9 => List.mem_cons_of_mem _ (List.mem_append_left _ (List.mem_append_right _ (h9)))) hown hK hP (0) (mw_M G (z3 α β γ)) rfl 1 (by decide) (hts (.fieldLink RX6 9 "OrganCensusModel" "passers" "[I") (List.mem_of_getElem? (i := 2) rfl)) (fun _ h9 => h9) rfl dX6_streetTold_51 ?_
    refine lv_bipush (v := 24) hx hb dX6_streetTold_54 (by decide) ?_
    refine lv_iload_n hx hb dX6_streetTold_56 rfl (lv_at hl 1 rfl) ?_
    refine lv_imul hx hb dX6_streetTold_57 ?_
    refine lv_aload_n hx hb dX6_streetTold_58 rfl (lv_at hl 0 rfl) ?_
    refine va_get (D := G.1) (ci := 8) (v := .ref (ms G 0 0)) (C := RX6) (T := TX6) (N := 6) hx hb hts (fun w9 h9 => List.mem_cons_of_mem _ (List.mem_append_left _ (List.mem_append_right _ (h9)))) hown hK hP (0) (mw_M G (z3 α β γ)) rfl 4 (by decide) (hts (.fieldLink RX6 21 "OrganCensusModel" "s" "LOrganCensusModel$State;") (List.mem_of_getElem? (i := 1) rfl)) (fun _ h9 => h9) rfl dX6_streetTold_59 ?_
    refine va_getN (D := G.1) (ci := 7) (v := .int (α 40 0 0)) (C := RX5) (T := TX5) (N := 21) hx hb hts (fun w9 h9 => List.mem_cons_of_mem _ (List.mem_append_right _ (h9))) hown hK hP (3 + 18 * 0 + (0)) (mv_S G (z3 α β γ) (show 0 < 2 by decide)) rfl 0 (by decide) (va_Nw.use rfl (hN.1 (RX6, 56, RX5, "hour", "I", RX6) (List.mem_of_getElem? (i := 4) rfl))) (fun _ h9 => h9) rfl dX6_streetTold_62 ?_
    refine lv_bipush (v := 24) hx hb dX6_streetTold_65 (by decide) ?_
    refine o_irem hx hb dX6_streetTold_67 (by decide) ?_
    refine lv_iadd hx hb dX6_streetTold_68 ?_
    refine o_iald (k := (24 * r) + (nH % 24)) hx hb hK hP (1) 0 (mw_MP G (z3 α β γ)) rfl (o_nadd (o_nmul (by decide) rfl) (o_rem_n hz5 (by decide) (by omega) (by decide) (by decide))) (by omega) (by decide) dX6_streetTold_69 ?_
    exact o_iretR hx hb hr hlocks dX6_streetTold_70 (by first | rfl | exact absurd (by decide) c118 | exact absurd c118 (by decide))
  · refine lv_tableIn (off := 70) (tgt := 71) hx hb dX6_streetTold_1 (by decide) (by decide) (by decide) (by decide) ?_
    refine lv_aload_n hx hb dX6_streetTold_71 rfl (lv_at hl 0 rfl) ?_
    refine va_get (D := G.1) (ci := 8) (v := .ref (ms G 0 0)) (C := RX6) (T := TX6) (N := 6) hx hb hts (fun w9 h9 => List.mem_cons_of_mem _ (List.mem_append_left _ (List.mem_append_right _ (h9)))) hown hK hP (0) (mw_M G (z3 α β γ)) rfl 4 (by decide) (hts (.fieldLink RX6 21 "OrganCensusModel" "s" "LOrganCensusModel$State;") (List.mem_of_getElem? (i := 1) rfl)) (fun _ h9 => h9) rfl dX6_streetTold_72 ?_
    refine lv_iload_n hx hb dX6_streetTold_75 rfl (lv_at hl 1 rfl) ?_
    have hP : va_P G.1 vwCl (mtw G (z3 α β γ) 0 α) s.heap := by rw [mz0]; exact hP
    refine o_cVi (q0 := 3 + 18 * 0 + (0)) (ci := 7) [.int (nI r)] [] ⟨hx, hb, hml, hown, hts⟩ (m_X5_standing l G (z3 α β γ) (show 0 < 2 by decide) α nS nO nH hz (nI r)) (cwV 1 hts gX6_streetTold_X5_standing rfl rfl rfl (by decide +kernel) ⟨Nat.le_of_ble_eq_true rfl, Nat.le_of_ble_eq_true rfl⟩) hK hN hP rfl rfl (mt_S G (z3 α β γ) (show 0 < 2 by decide) α) rfl hl.1 rfl (Nat.le_of_ble_eq_true rfl) dX6_streetTold_76 ⟨Nat.zero_le _, Nat.zero_le _⟩ ?_
    have hP : va_P G.1 vwCl (mw G (z3 α β γ)) s.heap := by rw [mz0] at hP; exact hP
    exact o_iretR hx hb hr hlocks dX6_streetTold_79 (by first | rfl | exact absurd (by decide) c118 | exact absurd c118 (by decide))
  · refine lv_tableIn (off := 79) (tgt := 80) hx hb dX6_streetTold_1 (by decide) (by decide) (by decide) (by decide) ?_
    refine lv_aload_n hx hb dX6_streetTold_80 rfl (lv_at hl 0 rfl) ?_
    refine va_get (D := G.1) (ci := 8) (v := .ref (ms G 0 0)) (C := RX6) (T := TX6) (N := 6) hx hb hts (fun w9 h9 => List.mem_cons_of_mem _ (List.mem_append_left _ (List.mem_append_right _ (h9)))) hown hK hP (0) (mw_M G (z3 α β γ)) rfl 4 (by decide) (hts (.fieldLink RX6 21 "OrganCensusModel" "s" "LOrganCensusModel$State;") (List.mem_of_getElem? (i := 1) rfl)) (fun _ h9 => h9) rfl dX6_streetTold_81 ?_
    refine lv_iload_n hx hb dX6_streetTold_84 rfl (lv_at hl 1 rfl) ?_
    refine lv_iconst (v := (-1)) hx hb dX6_streetTold_85 (by decide) ?_
    have hP : va_P G.1 vwCl (mtw G (z3 α β γ) 0 α) s.heap := by rw [mz0]; exact hP
    refine o_cVi (q0 := 3 + 18 * 0 + (0)) (ci := 7) [.int (nI r), .int ((-1))] [] ⟨hx, hb, hml, hown, hts⟩ (m_X5_complaintsOf l G (z3 α β γ) (show 0 < 2 by decide) α nS nO nH hz (nI r) (-1)) (cwV 2 hts gX6_streetTold_X5_complaintsOf rfl rfl rfl (by decide +kernel) ⟨Nat.le_of_ble_eq_true rfl, Nat.le_of_ble_eq_true rfl⟩) hK hN hP rfl rfl (mt_S G (z3 α β γ) (show 0 < 2 by decide) α) rfl hl.1 rfl (Nat.le_of_ble_eq_true rfl) dX6_streetTold_86 ⟨Nat.zero_le _, Nat.zero_le _⟩ ?_
    have hP : va_P G.1 vwCl (mw G (z3 α β γ)) s.heap := by rw [mz0] at hP; exact hP
    exact o_iretR hx hb hr hlocks dX6_streetTold_89 (by first | rfl | exact absurd (by decide) c118 | exact absurd c118 (by decide))
  · refine lv_tableIn (off := 89) (tgt := 90) hx hb dX6_streetTold_1 (by decide) (by decide) (by decide) (by decide) ?_
    refine lv_aload_n hx hb dX6_streetTold_90 rfl (lv_at hl 0 rfl) ?_
    refine va_get (D := G.1) (ci := 8) (v := .ref (ms G 0 0)) (C := RX6) (T := TX6) (N := 6) hx hb hts (fun w9 h9 => List.mem_cons_of_mem _ (List.mem_append_left _ (List.mem_append_right _ (h9)))) hown hK hP (0) (mw_M G (z3 α β γ)) rfl 4 (by decide) (hts (.fieldLink RX6 21 "OrganCensusModel" "s" "LOrganCensusModel$State;") (List.mem_of_getElem? (i := 1) rfl)) (fun _ h9 => h9) rfl dX6_streetTold_91 ?_
    refine va_getN (D := G.1) (ci := 7) (v := .ref (ms G 0 4)) (C := RX5) (T := TX5) (N := 21) hx hb hts (fun w9 h9 => List.mem_cons_of_mem _ (List.mem_append_right _ (h9))) hown hK hP (3 + 18 * 0 + (0)) (mv_S G (z3 α β γ) (show 0 < 2 by decide)) rfl 5 (by decide) (va_Nw.use rfl (hN.1 (RX6, 66, RX5, "given", "[I", RX6) (List.mem_of_getElem? (i := 5) rfl))) (fun _ h9 => h9) rfl dX6_streetTold_94 ?_
    refine lv_iload_n hx hb dX6_streetTold_97 rfl (lv_at hl 1 rfl) ?_
    refine o_iald (k := r) hx hb hK hP (3 + 18 * 0 + (4)) 0 (mv_A4 G (z3 α β γ) (show 0 < 2 by decide)) rfl rfl (by omega) (by decide) dX6_streetTold_98 ?_
    exact o_iretR hx hb hr hlocks dX6_streetTold_99 (by first | rfl | exact absurd (by decide) c118 | exact absurd c118 (by decide))
  · refine lv_tableIn (off := 99) (tgt := 100) hx hb dX6_streetTold_1 (by decide) (by decide) (by decide) (by decide) ?_
    refine lv_aload_n hx hb dX6_streetTold_100 rfl (lv_at hl 0 rfl) ?_
    refine va_get (D := G.1) (ci := 8) (v := .ref (ms G 0 0)) (C := RX6) (T := TX6) (N := 6) hx hb hts (fun w9 h9 => List.mem_cons_of_mem _ (List.mem_append_left _ (List.mem_append_right _ (h9)))) hown hK hP (0) (mw_M G (z3 α β γ)) rfl 4 (by decide) (hts (.fieldLink RX6 21 "OrganCensusModel" "s" "LOrganCensusModel$State;") (List.mem_of_getElem? (i := 1) rfl)) (fun _ h9 => h9) rfl dX6_streetTold_101 ?_
    refine va_getN (D := G.1) (ci := 7) (v := .ref (ms G 0 5)) (C := RX5) (T := TX5) (N := 21) hx hb hts (fun w9 h9 => List.mem_cons_of_mem _ (List.mem_append_right _ (h9))) hown hK hP (3 + 18 * 0 + (0)) (mv_S G (z3 α β γ) (show 0 < 2 by decide)) rfl 6 (by decide) (va_Nw.use rfl (hN.1 (RX6, 69, RX5, "sent", "[I", RX6) (List.mem_of_getElem? (i := 6) rfl))) (fun _ h9 => h9) rfl dX6_streetTold_104 ?_
    refine lv_iload_n hx hb dX6_streetTold_107 rfl (lv_at hl 1 rfl) ?_
    refine o_iald (k := r) hx hb hK hP (3 + 18 * 0 + (5)) 0 (mv_A5 G (z3 α β γ) (show 0 < 2 by decide)) rfl rfl (by omega) (by decide) dX6_streetTold_108 ?_
    exact o_iretR hx hb hr hlocks dX6_streetTold_109 (by first | rfl | exact absurd (by decide) c118 | exact absurd c118 (by decide))
  · refine lv_tableOut (tgt := 110) hx hb dX6_streetTold_1 (by decide) (by decide) ?_
    refine lv_aload_n hx hb dX6_streetTold_110 rfl (lv_at hl 0 rfl) ?_
    refine va_get (D := G.1) (ci := 8) (v := .ref (ms G 0 0)) (C := RX6) (T := TX6) (N := 6) hx hb hts (fun w9 h9 => List.mem_cons_of_mem _ (List.mem_append_left _ (List.mem_append_right _ (h9)))) hown hK hP (0) (mw_M G (z3 α β γ)) rfl 4 (by decide) (hts (.fieldLink RX6 21 "OrganCensusModel" "s" "LOrganCensusModel$State;") (List.mem_of_getElem? (i := 1) rfl)) (fun _ h9 => h9) rfl dX6_streetTold_111 ?_
    refine lv_iload_n hx hb dX6_streetTold_114 rfl (lv_at hl 1 rfl) ?_
    refine lv_iload_n hx hb dX6_streetTold_115 rfl (lv_at hl 2 rfl) ?_
    refine lv_bipush (v := 6) hx hb dX6_streetTold_116 (by decide) ?_
    refine lv_icmp_ne (tgt := 125) hx hb dX6_streetTold_118 (by decide) (fun c118 => ?_) (fun c118 => ?_)
    · refine lv_iconst (v := 0) hx hb dX6_streetTold_125 (by decide) ?_
      have hP : va_P G.1 vwCl (mtw G (z3 α β γ) 0 α) s.heap := by rw [mz0]; exact hP
      refine o_cVi (q0 := 3 + 18 * 0 + (0)) (ci := 7) [.int (nI r), .int 0] [] ⟨hx, hb, hml, hown, hts⟩ (m_X5_pitchesWith l G (z3 α β γ) (show 0 < 2 by decide) α nS nO nH hz r (nI r) (rfl) (by omega) false) (cwV 2 hts gX6_streetTold_X5_pitchesWith rfl rfl rfl (by decide +kernel) ⟨Nat.le_of_ble_eq_true rfl, Nat.le_of_ble_eq_true rfl⟩) hK hN hP rfl rfl (mt_S G (z3 α β γ) (show 0 < 2 by decide) α) rfl hl.1 rfl (Nat.le_of_ble_eq_true rfl) dX6_streetTold_126 ⟨Nat.zero_le _, Nat.zero_le _⟩ ?_
      have hP : va_P G.1 vwCl (mw G (z3 α β γ)) s.heap := by rw [mz0] at hP; exact hP
      exact o_iretR hx hb hr hlocks dX6_streetTold_129 (by first | rfl | exact absurd (by decide) c118 | exact absurd c118 (by decide))
    · refine lv_iconst (v := 1) hx hb dX6_streetTold_121 (by decide) ?_
      refine lv_goto (tgt := 126) hx hb dX6_streetTold_122 (by decide) ?_
      have hP : va_P G.1 vwCl (mtw G (z3 α β γ) 0 α) s.heap := by rw [mz0]; exact hP
      refine o_cVi (q0 := 3 + 18 * 0 + (0)) (ci := 7) [.int (nI r), .int 1] [] ⟨hx, hb, hml, hown, hts⟩ (m_X5_pitchesWith l G (z3 α β γ) (show 0 < 2 by decide) α nS nO nH hz r (nI r) (rfl) (by omega) true) (cwV 2 hts gX6_streetTold_X5_pitchesWith rfl rfl rfl (by decide +kernel) ⟨Nat.le_of_ble_eq_true rfl, Nat.le_of_ble_eq_true rfl⟩) hK hN hP rfl rfl (mt_S G (z3 α β γ) (show 0 < 2 by decide) α) rfl hl.1 rfl (Nat.le_of_ble_eq_true rfl) dX6_streetTold_126 ⟨Nat.zero_le _, Nat.zero_le _⟩ ?_
      have hP : va_P G.1 vwCl (mw G (z3 α β γ)) s.heap := by rw [mz0] at hP; exact hP
      exact o_iretR hx hb hr hlocks dX6_streetTold_129 (by first | rfl | exact absurd (by decide) c118 | exact absurd c118 (by decide))
  · refine lv_tableOut (tgt := 110) hx hb dX6_streetTold_1 (by decide) (by decide) ?_
    refine lv_aload_n hx hb dX6_streetTold_110 rfl (lv_at hl 0 rfl) ?_
    refine va_get (D := G.1) (ci := 8) (v := .ref (ms G 0 0)) (C := RX6) (T := TX6) (N := 6) hx hb hts (fun w9 h9 => List.mem_cons_of_mem _ (List.mem_append_left _ (List.mem_append_right _ (h9)))) hown hK hP (0) (mw_M G (z3 α β γ)) rfl 4 (by decide) (hts (.fieldLink RX6 21 "OrganCensusModel" "s" "LOrganCensusModel$State;") (List.mem_of_getElem? (i := 1) rfl)) (fun _ h9 => h9) rfl dX6_streetTold_111 ?_
    refine lv_iload_n hx hb dX6_streetTold_114 rfl (lv_at hl 1 rfl) ?_
    refine lv_iload_n hx hb dX6_streetTold_115 rfl (lv_at hl 2 rfl) ?_
    refine lv_bipush (v := 6) hx hb dX6_streetTold_116 (by decide) ?_
    refine lv_icmp_ne (tgt := 125) hx hb dX6_streetTold_118 (by decide) (fun c118 => ?_) (fun c118 => ?_)
    · refine lv_iconst (v := 0) hx hb dX6_streetTold_125 (by decide) ?_
      have hP : va_P G.1 vwCl (mtw G (z3 α β γ) 0 α) s.heap := by rw [mz0]; exact hP
      refine o_cVi (q0 := 3 + 18 * 0 + (0)) (ci := 7) [.int (nI r), .int 0] [] ⟨hx, hb, hml, hown, hts⟩ (m_X5_pitchesWith l G (z3 α β γ) (show 0 < 2 by decide) α nS nO nH hz r (nI r) (rfl) (by omega) false) (cwV 2 hts gX6_streetTold_X5_pitchesWith rfl rfl rfl (by decide +kernel) ⟨Nat.le_of_ble_eq_true rfl, Nat.le_of_ble_eq_true rfl⟩) hK hN hP rfl rfl (mt_S G (z3 α β γ) (show 0 < 2 by decide) α) rfl hl.1 rfl (Nat.le_of_ble_eq_true rfl) dX6_streetTold_126 ⟨Nat.zero_le _, Nat.zero_le _⟩ ?_
      have hP : va_P G.1 vwCl (mw G (z3 α β γ)) s.heap := by rw [mz0] at hP; exact hP
      exact o_iretR hx hb hr hlocks dX6_streetTold_129 (by first | rfl | exact absurd (by decide) c118 | exact absurd c118 (by decide))
    · refine lv_iconst (v := 1) hx hb dX6_streetTold_121 (by decide) ?_
      refine lv_goto (tgt := 126) hx hb dX6_streetTold_122 (by decide) ?_
      have hP : va_P G.1 vwCl (mtw G (z3 α β γ) 0 α) s.heap := by rw [mz0]; exact hP
      refine o_cVi (q0 := 3 + 18 * 0 + (0)) (ci := 7) [.int (nI r), .int 1] [] ⟨hx, hb, hml, hown, hts⟩ (m_X5_pitchesWith l G (z3 α β γ) (show 0 < 2 by decide) α nS nO nH hz r (nI r) (rfl) (by omega) true) (cwV 2 hts gX6_streetTold_X5_pitchesWith rfl rfl rfl (by decide +kernel) ⟨Nat.le_of_ble_eq_true rfl, Nat.le_of_ble_eq_true rfl⟩) hK hN hP rfl rfl (mt_S G (z3 α β γ) (show 0 < 2 by decide) α) rfl hl.1 rfl (Nat.le_of_ble_eq_true rfl) dX6_streetTold_126 ⟨Nat.zero_le _, Nat.zero_le _⟩ ?_
      have hP : va_P G.1 vwCl (mw G (z3 α β γ)) s.heap := by rw [mz0] at hP; exact hP
      exact o_iretR hx hb hr hlocks dX6_streetTold_129 (by first | rfl | exact absurd (by decide) c118 | exact absurd c118 (by decide))
set_option maxHeartbeats 4000000 in
set_option maxRecDepth 100000 in
theorem m_X6_street (l : Launch) (G : oG) (hI : wl_I G.2.1 39) (α β γ : oT) (nS : Nat) (nO : Nat) (nH : Nat) (hz : qOK α nS nO nH) (x : Int32) (y : Int32) : Met l yX6_street wsX6_street ({ frames := 6, cells := 0, slots := 0, locals := 141 } : Room) (va_Pc [.ref (G.2.1 0), .int x, .int y] (PW G (mw G (z3 α β γ)))) (oQ (some (.int (if cStreet nS x y = 0 then qStT α γ nO nH (oN x) (oN y) else 0))) (fun H9 => va_P G.1 vwCl (mw G (z3 α β (mT γ (cStreet nS x y)))) H9) (mA G)) 0 0 (mA G) := by
  refine o_body (cc := cX6_street) (by decide +kernel) rfl (Nat.le_of_ble_eq_true rfl) ?_
  intro p e s m below meth c ls hx hb hml hr hlocks hown hts hP hK hN hl
  have hown : s.vm.findClass RX6 = some m.cls := hown
  have hl : lv_has ls 3 [(0, .ref (G.2.1 0)), (1, .int x), (2, .int y)] := hl
  have hS : va_S (mA G) s.heap s.heap [] := va_S.rf
  obtain ⟨hz1, hz2, hz3, hz4, hz5, hz6, hz7, hz8⟩ := id hz
  refine lv_aload_n hx hb dX6_street_0 rfl (lv_at hl 0 rfl) ?_
  refine lv_iconst (v := 0) hx hb dX6_street_1 (by decide) ?_
  refine va_put (D := G.1) (ci := 8) (v := .int 0) (ty := .int) (C := RX6) (T := TX6) (N := 6) hx hb hts (fun w9 h9 => List.mem_cons_of_mem _ (List.mem_append_left _ (List.mem_append_right _ (h9)))) tyX6 tyX6_ok nmX6 hown hK hP (mw_D G _ hI) hS (0) (mw_M G (z3 α β γ)) rfl 0 (by decide) (hts (.fieldLink RX6 28 "OrganCensusModel" "thrown" "I") (List.mem_of_getElem? (i := 1) rfl)) (fun _ h9 => h9) rfl (by decide +kernel) rfl rfl (Nat.le_of_ble_eq_true rfl) dX6_street_2 (fun H locs hP hD hS => ?_)
  have hP : va_P G.1 vwCl (mw G (z3 α β (su γ 41 0 0 0))) H := by rw [← (mw_zP (a := α) (b := β) (c := γ) (τ' := su γ 41 0 0 0) (mw_uM0 G (z3 α β γ) 0))]; exact hP
  clear hD
  refine lv_aload_n hx hb dX6_street_5 rfl (lv_at hl 0 rfl) ?_
  refine lv_iload_n hx hb dX6_street_6 rfl (lv_at hl 1 rfl) ?_
  refine o_cVi (q0 := 0) (ci := 8) [.int x] [] ⟨hx, hb, hml, hown, hts⟩ (m_X6_isStreet l G α β (su γ 41 0 0 0) nS nO nH hz x) (cwV 1 hts gX6_street_X6_isStreet rfl rfl rfl (by decide +kernel) ⟨Nat.le_of_ble_eq_true rfl, Nat.le_of_ble_eq_true rfl⟩) hK hN hP rfl rfl (mw_M G (z3 α β (su γ 41 0 0 0))) rfl hl.1 rfl (Nat.le_of_ble_eq_true rfl) dX6_street_7 ⟨Nat.zero_le _, Nat.zero_le _⟩ ?_
  refine lv_if_eq (tgt := 32) hx hb dX6_street_10 (by decide) (fun c10 => ?_) (fun c10 => ?_)
  · have c10 := bI_eq.mp c10
    refine lv_aload_n hx hb dX6_street_32 rfl (lv_at hl 0 rfl) ?_
    refine lv_iconst (v := 1) hx hb dX6_street_33 (by decide) ?_
    refine o_cVmi (q0 := 0) (ci := 8) [.int 1] [] ⟨hx, hb, hml, hown, hts⟩ (m_X6_no l G hI α β (su γ 41 0 0 0) 1) (cwV 1 hts gX6_street_X6_no rfl rfl rfl (by decide +kernel) ⟨Nat.le_of_ble_eq_true rfl, Nat.le_of_ble_eq_true rfl⟩) hK hN hP hS rfl rfl (mw_M G (z3 α β (su γ 41 0 0 0))) rfl hl.1 rfl (Nat.le_of_ble_eq_true rfl) dX6_street_34 ⟨Nat.zero_le _, Nat.zero_le _⟩ (fun H locs hP hS => ?_)
    exact o_iretM hx hb hr hlocks hS dX6_street_37 (by have hP9 := hP; simp (decide := true) only [cStreet, mT, c10, Bool.true_and, Bool.and_true, Bool.false_and, Bool.and_false, Bool.false_eq_true, if_true, if_false, reduceIte, not_true_eq_false, not_false_eq_true, and_true, and_false, true_and, false_and, Nat.reduceEqDiff, reduceCtorEq]; first | exact hP9 | (rw [su_su] at hP9; exact hP9)) (by simp (decide := true) only [cStreet, mT, c10, Bool.true_and, Bool.and_true, Bool.false_and, Bool.and_false, Bool.false_eq_true, if_true, if_false, reduceIte, not_true_eq_false, not_false_eq_true, and_true, and_false, true_and, false_and, Nat.reduceEqDiff, reduceCtorEq]; try rfl)
  · have c10 := bI_ne.mp c10
    have n10 := oIn_lt (by omega) c10
    refine lv_iload_n hx hb dX6_street_13 rfl (lv_at hl 2 rfl) ?_
    refine lv_iconst (v := 0) hx hb dX6_street_14 (by decide) ?_
    refine lv_bipush (v := 7) hx hb dX6_street_15 (by decide) ?_
    refine o_cSi [.int y, .int 0, .int 7] [] ⟨hx, hb, hml, hown, hts⟩ (m_X6_isIn l G (mw G (z3 α β (su γ 41 0 0 0))) y 0 7) (va_cwS 3 hts gX6_street_X6_isIn rfl rfl rfl (by decide +kernel) ⟨Nat.le_of_ble_eq_true rfl, Nat.le_of_ble_eq_true rfl⟩) hK hN hP rfl hl.1 rfl (Nat.le_of_ble_eq_true rfl) dX6_street_17 ⟨Nat.zero_le _, Nat.zero_le _⟩ ?_
    refine lv_if_eq (tgt := 32) hx hb dX6_street_20 (by decide) (fun c20 => ?_) (fun c20 => ?_)
    · have c20 := bI_eq.mp c20
      refine lv_aload_n hx hb dX6_street_32 rfl (lv_at hl 0 rfl) ?_
      refine lv_iconst (v := 1) hx hb dX6_street_33 (by decide) ?_
      refine o_cVmi (q0 := 0) (ci := 8) [.int 1] [] ⟨hx, hb, hml, hown, hts⟩ (m_X6_no l G hI α β (su γ 41 0 0 0) 1) (cwV 1 hts gX6_street_X6_no rfl rfl rfl (by decide +kernel) ⟨Nat.le_of_ble_eq_true rfl, Nat.le_of_ble_eq_true rfl⟩) hK hN hP hS rfl rfl (mw_M G (z3 α β (su γ 41 0 0 0))) rfl hl.1 rfl (Nat.le_of_ble_eq_true rfl) dX6_street_34 ⟨Nat.zero_le _, Nat.zero_le _⟩ (fun H locs hP hS => ?_)
      exact o_iretM hx hb hr hlocks hS dX6_street_37 (by have hP9 := hP; simp (decide := true) only [cStreet, mT, c10, c20, Bool.true_and, Bool.and_true, Bool.false_and, Bool.and_false, Bool.false_eq_true, if_true, if_false, reduceIte, not_true_eq_false, not_false_eq_true, and_true, and_false, true_and, false_and, Nat.reduceEqDiff, reduceCtorEq]; first | exact hP9 | (rw [su_su] at hP9; exact hP9)) (by simp (decide := true) only [cStreet, mT, c10, c20, Bool.true_and, Bool.and_true, Bool.false_and, Bool.and_false, Bool.false_eq_true, if_true, if_false, reduceIte, not_true_eq_false, not_false_eq_true, and_true, and_false, true_and, false_and, Nat.reduceEqDiff, reduceCtorEq]; try rfl)
    · have c20 := bI_ne.mp c20
      have n20 := oRg_le (n := 7) (by decide) c20
      refine lv_aload_n hx hb dX6_street_23 rfl (lv_at hl 0 rfl) ?_
      refine lv_iload_n hx hb dX6_street_24 rfl (lv_at hl 1 rfl) ?_
      refine lv_iload_n hx hb dX6_street_25 rfl (lv_at hl 2 rfl) ?_
      refine o_cVi (q0 := 0) (ci := 8) [.int x, .int y] [] ⟨hx, hb, hml, hown, hts⟩ (m_X6_streetTold l G α β (su γ 41 0 0 0) nS nO nH hz (oN x) x ((oIn_x c10)) (by omega) (oN y) y ((oRg_x c20)) (by omega)) (cwV 2 hts gX6_street_X6_streetTold rfl rfl rfl (by decide +kernel) ⟨Nat.le_of_ble_eq_true rfl, Nat.le_of_ble_eq_true rfl⟩) hK hN hP rfl rfl (mw_M G (z3 α β (su γ 41 0 0 0))) rfl hl.1 rfl (Nat.le_of_ble_eq_true rfl) dX6_street_26 ⟨Nat.zero_le _, Nat.zero_le _⟩ ?_
      refine lv_goto (tgt := 37) hx hb dX6_street_29 (by decide) ?_
      exact o_iretM hx hb hr hlocks hS dX6_street_37 (by have hP9 := hP; simp (decide := true) only [cStreet, mT, c10, c20, Bool.true_and, Bool.and_true, Bool.false_and, Bool.and_false, Bool.false_eq_true, if_true, if_false, reduceIte, not_true_eq_false, not_false_eq_true, and_true, and_false, true_and, false_and, Nat.reduceEqDiff, reduceCtorEq]; first | exact hP9 | (rw [su_su] at hP9; exact hP9)) (by simp (decide := true) only [cStreet, mT, c10, c20, Bool.true_and, Bool.and_true, Bool.false_and, Bool.and_false, Bool.false_eq_true, if_true, if_false, reduceIte, not_true_eq_false, not_false_eq_true, and_true, and_false, true_and, false_and, Nat.reduceEqDiff, reduceCtorEq]; try rfl)
set_option maxHeartbeats 4000000 in
set_option maxRecDepth 100000 in
theorem m_X6_ear (l : Launch) (G : oG) (hI : wl_I G.2.1 39) (α β γ : oT) (nS : Nat) (nO : Nat) (nH : Nat) (hz : qOK α nS nO nH) (x : Int32) (y : Int32) (bb : Bool) : Met l yX6_ear wsX6_ear ({ frames := 2, cells := 0, slots := 0, locals := 43 } : Room) (va_Pc [.ref (G.2.1 0), .int x, .int y, .int (bI bb)] (PW G (mw G (z3 α β γ)))) (oQ (some (.int (if cEar nS x y = 0 then (if bb = true then α 2 0 (6 * oN x + oN y) else α 3 0 (6 * oN x + oN y)) else 0))) (fun H9 => va_P G.1 vwCl (mw G (z3 α β (mT γ (cEar nS x y)))) H9) (mA G)) 0 0 (mA G) := by
  refine o_body (cc := cX6_ear) (by decide +kernel) rfl (Nat.le_of_ble_eq_true rfl) ?_
  intro p e s m below meth c ls hx hb hml hr hlocks hown hts hP hK hN hl
  have hown : s.vm.findClass RX6 = some m.cls := hown
  have hl : lv_has ls 4 [(0, .ref (G.2.1 0)), (1, .int x), (2, .int y), (3, .int (bI bb))] := hl
  have hS : va_S (mA G) s.heap s.heap [] := va_S.rf
  obtain ⟨hz1, hz2, hz3, hz4, hz5, hz6, hz7, hz8⟩ := id hz
  refine lv_aload_n hx hb dX6_ear_0 rfl (lv_at hl 0 rfl) ?_
  refine lv_iconst (v := 0) hx hb dX6_ear_1 (by decide) ?_
  refine va_put (D := G.1) (ci := 8) (v := .int 0) (ty := .int) (C := RX6) (T := TX6) (N := 6) hx hb hts (fun w9 h9 => List.mem_cons_of_mem _ (List.mem_append_left _ (List.mem_append_right _ (h9)))) tyX6 tyX6_ok nmX6 hown hK hP (mw_D G _ hI) hS (0) (mw_M G (z3 α β γ)) rfl 0 (by decide) (hts (.fieldLink RX6 28 "OrganCensusModel" "thrown" "I") (List.mem_of_getElem? (i := 1) rfl)) (fun _ h9 => h9) rfl (by decide +kernel) rfl rfl (Nat.le_of_ble_eq_true rfl) dX6_ear_2 (fun H locs hP hD hS => ?_)
  have hP : va_P G.1 vwCl (mw G (z3 α β (su γ 41 0 0 0))) H := by rw [← (mw_zP (a := α) (b := β) (c := γ) (τ' := su γ 41 0 0 0) (mw_uM0 G (z3 α β γ) 0))]; exact hP
  clear hD
  refine lv_aload_n hx hb dX6_ear_5 rfl (lv_at hl 0 rfl) ?_
  refine lv_iload_n hx hb dX6_ear_6 rfl (lv_at hl 1 rfl) ?_
  refine o_cVi (q0 := 0) (ci := 8) [.int x] [] ⟨hx, hb, hml, hown, hts⟩ (m_X6_isStreet l G α β (su γ 41 0 0 0) nS nO nH hz x) (cwV 1 hts gX6_ear_X6_isStreet rfl rfl rfl (by decide +kernel) ⟨Nat.le_of_ble_eq_true rfl, Nat.le_of_ble_eq_true rfl⟩) hK hN hP rfl rfl (mw_M G (z3 α β (su γ 41 0 0 0))) rfl hl.1 rfl (Nat.le_of_ble_eq_true rfl) dX6_ear_7 ⟨Nat.zero_le _, Nat.zero_le _⟩ ?_
  refine lv_if_eq (tgt := 22) hx hb dX6_ear_10 (by decide) (fun c10 => ?_) (fun c10 => ?_)
  · have c10 := bI_eq.mp c10
    refine lv_aload_n hx hb dX6_ear_22 rfl (lv_at hl 0 rfl) ?_
    refine lv_iconst (v := 1) hx hb dX6_ear_23 (by decide) ?_
    refine o_cVmi (q0 := 0) (ci := 8) [.int 1] [] ⟨hx, hb, hml, hown, hts⟩ (m_X6_no l G hI α β (su γ 41 0 0 0) 1) (cwV 1 hts gX6_ear_X6_no rfl rfl rfl (by decide +kernel) ⟨Nat.le_of_ble_eq_true rfl, Nat.le_of_ble_eq_true rfl⟩) hK hN hP hS rfl rfl (mw_M G (z3 α β (su γ 41 0 0 0))) rfl hl.1 rfl (Nat.le_of_ble_eq_true rfl) dX6_ear_24 ⟨Nat.zero_le _, Nat.zero_le _⟩ (fun H locs hP hS => ?_)
    exact o_iretM hx hb hr hlocks hS dX6_ear_27 (by have hP9 := hP; simp (decide := true) only [cEar, mT, c10, Bool.true_and, Bool.and_true, Bool.false_and, Bool.and_false, Bool.false_eq_true, if_true, if_false, reduceIte, not_true_eq_false, not_false_eq_true, and_true, and_false, true_and, false_and, Nat.reduceEqDiff, reduceCtorEq]; first | exact hP9 | (rw [su_su] at hP9; exact hP9)) (by simp (decide := true) only [cEar, mT, c10, Bool.true_and, Bool.and_true, Bool.false_and, Bool.and_false, Bool.false_eq_true, if_true, if_false, reduceIte, not_true_eq_false, not_false_eq_true, and_true, and_false, true_and, false_and, Nat.reduceEqDiff, reduceCtorEq]; try rfl)
  · have c10 := bI_ne.mp c10
    have n10 := oIn_lt (by omega) c10
    refine lv_iload_n hx hb dX6_ear_13 rfl (lv_at hl 2 rfl) ?_
    refine lv_iconst (v := 0) hx hb dX6_ear_14 (by decide) ?_
    refine lv_iconst (v := 5) hx hb dX6_ear_15 (by decide) ?_
    refine o_cSi [.int y, .int 0, .int 5] [] ⟨hx, hb, hml, hown, hts⟩ (m_X6_isIn l G (mw G (z3 α β (su γ 41 0 0 0))) y 0 5) (va_cwS 3 hts gX6_ear_X6_isIn rfl rfl rfl (by decide +kernel) ⟨Nat.le_of_ble_eq_true rfl, Nat.le_of_ble_eq_true rfl⟩) hK hN hP rfl hl.1 rfl (Nat.le_of_ble_eq_true rfl) dX6_ear_16 ⟨Nat.zero_le _, Nat.zero_le _⟩ ?_
    refine lv_if_ne (tgt := 28) hx hb dX6_ear_19 (by decide) (fun c19 => ?_) (fun c19 => ?_)
    · have c19 := bI_ne.mp c19
      have n19 := oRg_le (n := 5) (by decide) c19
      refine lv_iload_n hx hb dX6_ear_28 rfl (lv_at hl 3 rfl) ?_
      refine lv_if_eq (tgt := 49) hx hb dX6_ear_29 (by decide) (fun c29 => ?_) (fun c29 => ?_)
      · have c29 := bI_eq.mp c29
        refine lv_aload_n hx hb dX6_ear_49 rfl (lv_at hl 0 rfl) ?_
        refine va_get (D := G.1) (ci := 8) (v := .ref (ms G 0 0)) (C := RX6) (T := TX6) (N := 6) hx hb hts (fun w9 h9 => List.mem_cons_of_mem _ (List.mem_append_left _ (List.mem_append_right _ (h9)))) hown hK hP (0) (mw_M G (z3 α β (su γ 41 0 0 0))) rfl 4 (by decide) (hts (.fieldLink RX6 21 "OrganCensusModel" "s" "LOrganCensusModel$State;") (List.mem_of_getElem? (i := 2) rfl)) (fun _ h9 => h9) rfl dX6_ear_50 ?_
        refine va_getN (D := G.1) (ci := 7) (v := .ref (ms G 0 3)) (C := RX5) (T := TX5) (N := 21) hx hb hts (fun w9 h9 => List.mem_cons_of_mem _ (List.mem_append_right _ (h9))) hown hK hP (3 + 18 * 0 + (0)) (mv_S G (z3 α β (su γ 41 0 0 0)) (show 0 < 2 by decide)) rfl 4 (by decide) (va_Nw.use rfl (hN.1 (RX6, 79, RX5, "weary", "[I", RX6) (List.mem_of_getElem? (i := 7) rfl))) (fun _ h9 => h9) rfl dX6_ear_53 ?_
        refine lv_bipush (v := 6) hx hb dX6_ear_56 (by decide) ?_
        refine lv_iload_n hx hb dX6_ear_58 rfl (lv_at hl 1 rfl) ?_
        refine lv_imul hx hb dX6_ear_59 ?_
        refine lv_iload_n hx hb dX6_ear_60 rfl (lv_at hl 2 rfl) ?_
        refine lv_iadd hx hb dX6_ear_61 ?_
        refine o_iald (k := (6 * (oN x)) + (oN y)) hx hb hK hP (3 + 18 * 0 + (3)) 0 (mv_A3 G (z3 α β (su γ 41 0 0 0)) (show 0 < 2 by decide)) rfl (o_nadd (o_nmul (by decide) (oIn_x c10)) (oRg_x c19)) (by omega) (by decide) dX6_ear_62 ?_
        exact o_iretM hx hb hr hlocks hS dX6_ear_63 (by have hP9 := hP; simp (decide := true) only [cEar, mT, c10, c19, c29, Bool.true_and, Bool.and_true, Bool.false_and, Bool.and_false, Bool.false_eq_true, if_true, if_false, reduceIte, not_true_eq_false, not_false_eq_true, and_true, and_false, true_and, false_and, Nat.reduceEqDiff, reduceCtorEq]; first | exact hP9 | (rw [su_su] at hP9; exact hP9)) (by simp (decide := true) only [cEar, mT, c10, c19, c29, Bool.true_and, Bool.and_true, Bool.false_and, Bool.and_false, Bool.false_eq_true, if_true, if_false, reduceIte, not_true_eq_false, not_false_eq_true, and_true, and_false, true_and, false_and, Nat.reduceEqDiff, reduceCtorEq]; try rfl)
      · have c29 := bI_ne.mp c29
        refine lv_aload_n hx hb dX6_ear_32 rfl (lv_at hl 0 rfl) ?_
        refine va_get (D := G.1) (ci := 8) (v := .ref (ms G 0 0)) (C := RX6) (T := TX6) (N := 6) hx hb hts (fun w9 h9 => List.mem_cons_of_mem _ (List.mem_append_left _ (List.mem_append_right _ (h9)))) hown hK hP (0) (mw_M G (z3 α β (su γ 41 0 0 0))) rfl 4 (by decide) (hts (.fieldLink RX6 21 "OrganCensusModel" "s" "LOrganCensusModel$State;") (List.mem_of_getElem? (i := 2) rfl)) (fun _ h9 => h9) rfl dX6_ear_33 ?_
        refine va_getN (D := G.1) (ci := 7) (v := .ref (ms G 0 2)) (C := RX5) (T := TX5) (N := 21) hx hb hts (fun w9 h9 => List.mem_cons_of_mem _ (List.mem_append_right _ (h9))) hown hK hP (3 + 18 * 0 + (0)) (mv_S G (z3 α β (su γ 41 0 0 0)) (show 0 < 2 by decide)) rfl 3 (by decide) (va_Nw.use rfl (hN.1 (RX6, 53, RX5, "taste", "[I", RX6) (List.mem_of_getElem? (i := 3) rfl))) (fun _ h9 => h9) rfl dX6_ear_36 ?_
        refine lv_bipush (v := 6) hx hb dX6_ear_39 (by decide) ?_
        refine lv_iload_n hx hb dX6_ear_41 rfl (lv_at hl 1 rfl) ?_
        refine lv_imul hx hb dX6_ear_42 ?_
        refine lv_iload_n hx hb dX6_ear_43 rfl (lv_at hl 2 rfl) ?_
        refine lv_iadd hx hb dX6_ear_44 ?_
        refine o_iald (k := (6 * (oN x)) + (oN y)) hx hb hK hP (3 + 18 * 0 + (2)) 0 (mv_A2 G (z3 α β (su γ 41 0 0 0)) (show 0 < 2 by decide)) rfl (o_nadd (o_nmul (by decide) (oIn_x c10)) (oRg_x c19)) (by omega) (by decide) dX6_ear_45 ?_
        refine lv_goto (tgt := 63) hx hb dX6_ear_46 (by decide) ?_
        exact o_iretM hx hb hr hlocks hS dX6_ear_63 (by have hP9 := hP; simp (decide := true) only [cEar, mT, c10, c19, c29, Bool.true_and, Bool.and_true, Bool.false_and, Bool.and_false, Bool.false_eq_true, if_true, if_false, reduceIte, not_true_eq_false, not_false_eq_true, and_true, and_false, true_and, false_and, Nat.reduceEqDiff, reduceCtorEq]; first | exact hP9 | (rw [su_su] at hP9; exact hP9)) (by simp (decide := true) only [cEar, mT, c10, c19, c29, Bool.true_and, Bool.and_true, Bool.false_and, Bool.and_false, Bool.false_eq_true, if_true, if_false, reduceIte, not_true_eq_false, not_false_eq_true, and_true, and_false, true_and, false_and, Nat.reduceEqDiff, reduceCtorEq]; try rfl)
    · have c19 := bI_eq.mp c19
      refine lv_aload_n hx hb dX6_ear_22 rfl (lv_at hl 0 rfl) ?_
      refine lv_iconst (v := 1) hx hb dX6_ear_23 (by decide) ?_
      refine o_cVmi (q0 := 0) (ci := 8) [.int 1] [] ⟨hx, hb, hml, hown, hts⟩ (m_X6_no l G hI α β (su γ 41 0 0 0) 1) (cwV 1 hts gX6_ear_X6_no rfl rfl rfl (by decide +kernel) ⟨Nat.le_of_ble_eq_true rfl, Nat.le_of_ble_eq_true rfl⟩) hK hN hP hS rfl rfl (mw_M G (z3 α β (su γ 41 0 0 0))) rfl hl.1 rfl (Nat.le_of_ble_eq_true rfl) dX6_ear_24 ⟨Nat.zero_le _, Nat.zero_le _⟩ (fun H locs hP hS => ?_)
      exact o_iretM hx hb hr hlocks hS dX6_ear_27 (by have hP9 := hP; simp (decide := true) only [cEar, mT, c10, c19, Bool.true_and, Bool.and_true, Bool.false_and, Bool.and_false, Bool.false_eq_true, if_true, if_false, reduceIte, not_true_eq_false, not_false_eq_true, and_true, and_false, true_and, false_and, Nat.reduceEqDiff, reduceCtorEq]; first | exact hP9 | (rw [su_su] at hP9; exact hP9)) (by simp (decide := true) only [cEar, mT, c10, c19, Bool.true_and, Bool.and_true, Bool.false_and, Bool.and_false, Bool.false_eq_true, if_true, if_false, reduceIte, not_true_eq_false, not_false_eq_true, and_true, and_false, true_and, false_and, Nat.reduceEqDiff, reduceCtorEq]; try rfl)
set_option maxHeartbeats 4000000 in
set_option maxRecDepth 100000 in
theorem m_X6_addOrgan (l : Launch) (G : oG) (hI : wl_I G.2.1 39) (α β γ : oT) (nS : Nat) (nO : Nat) (nH : Nat) (hz : qOK α nS nO nH) (x : Int32) (y : Int32) (z : Int32) : Met l yX6_addOrgan wsX6_addOrgan ({ frames := 3, cells := 0, slots := 0, locals := 65 } : Room) (va_Pc [.ref (G.2.1 0), .int x, .int y, .int z] (PW G (mw G (z3 α β γ)))) (oQ (some (.int (if cAdd nS nO (qNp α) x y z = 0 then nI nO else 0))) (fun H9 => va_P G.1 vwCl (mw G (z3 (if cAdd nS nO (qNp α) x y z = 0 then mAdd α nO x y z else α) β (mT γ (cAdd nS nO (qNp α) x y z)))) H9) (mA G)) 0 0 (mA G) := by
  refine o_body (cc := cX6_addOrgan) (by decide +kernel) rfl (Nat.le_of_ble_eq_true rfl) ?_
  intro p e s m below meth c ls hx hb hml hr hlocks hown hts hP hK hN hl
  have hown : s.vm.findClass RX6 = some m.cls := hown
  have hl : lv_has ls 4 [(0, .ref (G.2.1 0)), (1, .int x), (2, .int y), (3, .int z)] := hl
  have hS : va_S (mA G) s.heap s.heap [] := va_S.rf
  obtain ⟨hz1, hz2, hz3, hz4, hz5, hz6, hz7, hz8⟩ := id hz
  refine lv_aload_n hx hb dX6_addOrgan_0 rfl (lv_at hl 0 rfl) ?_
  refine lv_iconst (v := 0) hx hb dX6_addOrgan_1 (by decide) ?_
  refine va_put (D := G.1) (ci := 8) (v := .int 0) (ty := .int) (C := RX6) (T := TX6) (N := 6) hx hb hts (fun w9 h9 => List.mem_cons_of_mem _ (List.mem_append_left _ (List.mem_append_right _ (h9)))) tyX6 tyX6_ok nmX6 hown hK hP (mw_D G _ hI) hS (0) (mw_M G (z3 α β γ)) rfl 0 (by decide) (hts (.fieldLink RX6 28 "OrganCensusModel" "thrown" "I") (List.mem_of_getElem? (i := 1) rfl)) (fun _ h9 => h9) rfl (by decide +kernel) rfl rfl (Nat.le_of_ble_eq_true rfl) dX6_addOrgan_2 (fun H locs hP hD hS => ?_)
  have hP : va_P G.1 vwCl (mw G (z3 α β (su γ 41 0 0 0))) H := by rw [← (mw_zP (a := α) (b := β) (c := γ) (τ' := su γ 41 0 0 0) (mw_uM0 G (z3 α β γ) 0))]; exact hP
  clear hD
  refine lv_aload_n hx hb dX6_addOrgan_5 rfl (lv_at hl 0 rfl) ?_
  refine lv_iload_n hx hb dX6_addOrgan_6 rfl (lv_at hl 1 rfl) ?_
  refine lv_iload_n hx hb dX6_addOrgan_7 rfl (lv_at hl 2 rfl) ?_
  refine o_cVi (q0 := 0) (ci := 8) [.int x, .int y] [] ⟨hx, hb, hml, hown, hts⟩ (m_X6_isPitch l G α β (su γ 41 0 0 0) nS nO nH hz x y) (cwV 2 hts gX6_addOrgan_X6_isPitch rfl rfl rfl (by decide +kernel) ⟨Nat.le_of_ble_eq_true rfl, Nat.le_of_ble_eq_true rfl⟩) hK hN hP rfl rfl (mw_M G (z3 α β (su γ 41 0 0 0))) rfl hl.1 rfl (Nat.le_of_ble_eq_true rfl) dX6_addOrgan_8 ⟨Nat.zero_le _, Nat.zero_le _⟩ ?_
  refine lv_if_ne (tgt := 20) hx hb dX6_addOrgan_11 (by decide) (fun c11 => ?_) (fun c11 => ?_)
  · have c11 := bI_ne.mp c11
    have c111 := ((Bool.and_eq_true _ _).mp c11).1
    have c112 := ((Bool.and_eq_true _ _).mp c11).2
    have n111 := oIn_lt (by omega) c111
    have hp112 := (hz.2.2.2.2.2.2.1 (oN x) (by omega)).2
    have n112 := oIn_lt (by omega) c112
    refine lv_iload_n hx hb dX6_addOrgan_20 rfl (lv_at hl 3 rfl) ?_
    refine lv_iconst (v := 1) hx hb dX6_addOrgan_21 (by decide) ?_
    refine lv_bipush (v := 9) hx hb dX6_addOrgan_22 (by decide) ?_
    refine o_cSi [.int z, .int 1, .int 9] [] ⟨hx, hb, hml, hown, hts⟩ (m_X6_isIn l G (mw G (z3 α β (su γ 41 0 0 0))) z 1 9) (va_cwS 3 hts gX6_addOrgan_X6_isIn rfl rfl rfl (by decide +kernel) ⟨Nat.le_of_ble_eq_true rfl, Nat.le_of_ble_eq_true rfl⟩) hK hN hP rfl hl.1 rfl (Nat.le_of_ble_eq_true rfl) dX6_addOrgan_24 ⟨Nat.zero_le _, Nat.zero_le _⟩ ?_
    refine lv_if_ne (tgt := 36) hx hb dX6_addOrgan_27 (by decide) (fun c27 => ?_) (fun c27 => ?_)
    · have c27 := bI_ne.mp c27
      refine lv_aload_n hx hb dX6_addOrgan_36 rfl (lv_at hl 0 rfl) ?_
      refine va_get (D := G.1) (ci := 8) (v := .ref (ms G 0 0)) (C := RX6) (T := TX6) (N := 6) hx hb hts (fun w9 h9 => List.mem_cons_of_mem _ (List.mem_append_left _ (List.mem_append_right _ (h9)))) hown hK hP (0) (mw_M G (z3 α β (su γ 41 0 0 0))) rfl 4 (by decide) (hts (.fieldLink RX6 21 "OrganCensusModel" "s" "LOrganCensusModel$State;") (List.mem_of_getElem? (i := 2) rfl)) (fun _ h9 => h9) rfl dX6_addOrgan_37 ?_
      refine va_getN (D := G.1) (ci := 7) (v := .int (α 40 0 2)) (C := RX5) (T := TX5) (N := 21) hx hb hts (fun w9 h9 => List.mem_cons_of_mem _ (List.mem_append_right _ (h9))) hown hK hP (3 + 18 * 0 + (0)) (mv_S G (z3 α β (su γ 41 0 0 0)) (show 0 < 2 by decide)) rfl 7 (by decide) (va_Nw.use rfl (hN.1 (RX6, 39, RX5, "organs", "I", RX6) (List.mem_of_getElem? (i := 1) rfl))) (fun _ h9 => h9) rfl dX6_addOrgan_40 ?_
      refine lv_bipush (v := 8) hx hb dX6_addOrgan_43 (by decide) ?_
      refine lv_icmp_ne (tgt := 54) hx hb dX6_addOrgan_45 (by decide) (fun c45 => ?_) (fun c45 => ?_)
      · have n45 := (mt (o_neq (a := nO) (b := 8) hz.2.2.1 (by decide) (by omega) (by omega)).mpr) c45
        refine lv_aload_n hx hb dX6_addOrgan_54 rfl (lv_at hl 0 rfl) ?_
        refine va_get (D := G.1) (ci := 8) (v := .ref (ms G 0 0)) (C := RX6) (T := TX6) (N := 6) hx hb hts (fun w9 h9 => List.mem_cons_of_mem _ (List.mem_append_left _ (List.mem_append_right _ (h9)))) hown hK hP (0) (mw_M G (z3 α β (su γ 41 0 0 0))) rfl 4 (by decide) (hts (.fieldLink RX6 21 "OrganCensusModel" "s" "LOrganCensusModel$State;") (List.mem_of_getElem? (i := 2) rfl)) (fun _ h9 => h9) rfl dX6_addOrgan_55 ?_
        refine va_getN (D := G.1) (ci := 7) (v := .ref (ms G 0 6)) (C := RX5) (T := TX5) (N := 21) hx hb hts (fun w9 h9 => List.mem_cons_of_mem _ (List.mem_append_right _ (h9))) hown hK hP (3 + 18 * 0 + (0)) (mv_S G (z3 α β (su γ 41 0 0 0)) (show 0 < 2 by decide)) rfl 8 (by decide) (va_Nw.use rfl (hN.1 (RX6, 86, RX5, "at", "[I", RX6) (List.mem_of_getElem? (i := 8) rfl))) (fun _ h9 => h9) rfl dX6_addOrgan_58 ?_
        refine lv_aload_n hx hb dX6_addOrgan_61 rfl (lv_at hl 0 rfl) ?_
        refine va_get (D := G.1) (ci := 8) (v := .ref (ms G 0 0)) (C := RX6) (T := TX6) (N := 6) hx hb hts (fun w9 h9 => List.mem_cons_of_mem _ (List.mem_append_left _ (List.mem_append_right _ (h9)))) hown hK hP (0) (mw_M G (z3 α β (su γ 41 0 0 0))) rfl 4 (by decide) (hts (.fieldLink RX6 21 "OrganCensusModel" "s" "LOrganCensusModel$State;") (List.mem_of_getElem? (i := 2) rfl)) (fun _ h9 => h9) rfl dX6_addOrgan_62 ?_
        refine va_getN (D := G.1) (ci := 7) (v := .int (α 40 0 2)) (C := RX5) (T := TX5) (N := 21) hx hb hts (fun w9 h9 => List.mem_cons_of_mem _ (List.mem_append_right _ (h9))) hown hK hP (3 + 18 * 0 + (0)) (mv_S G (z3 α β (su γ 41 0 0 0)) (show 0 < 2 by decide)) rfl 7 (by decide) (va_Nw.use rfl (hN.1 (RX6, 39, RX5, "organs", "I", RX6) (List.mem_of_getElem? (i := 1) rfl))) (fun _ h9 => h9) rfl dX6_addOrgan_65 ?_
        refine lv_iload_n hx hb dX6_addOrgan_68 rfl (lv_at hl 1 rfl) ?_
        refine o_iast (k := nO) hx hb hK hP (mw_D G _ hI) hS (3 + 18 * 0 + (6)) 0 (mv_A6 G (z3 α β (su γ 41 0 0 0)) (show 0 < 2 by decide)) rfl hz.2.2.1 (by omega) (by decide) dX6_addOrgan_69 (fun H locs hP hD hS => ?_)
        have hP : va_P G.1 vwCl (mw G (z3 (su α 6 0 nO x) β (su γ 41 0 0 0))) H := by rw [← (mu_z0 (a := α) (b := β) (c := (su γ 41 0 0 0)) (τ' := su α 6 0 nO x) (mvu_A6 G (z3 α β (su γ 41 0 0 0)) (show 0 < 2 by decide) nO x))]; exact hP
        clear hD
        have hz69_0 : qOK (su α 6 0 nO x) nS nO nH := hz.of (qKp.su _ _ _ _ (by decide))
        refine lv_aload_n hx hb dX6_addOrgan_70 rfl (lv_at hl 0 rfl) ?_
        refine va_get (D := G.1) (ci := 8) (v := .ref (ms G 0 0)) (C := RX6) (T := TX6) (N := 6) hx hb hts (fun w9 h9 => List.mem_cons_of_mem _ (List.mem_append_left _ (List.mem_append_right _ (h9)))) hown hK hP (0) (mw_M G (z3 (su α 6 0 nO x) β (su γ 41 0 0 0))) rfl 4 (by decide) (hts (.fieldLink RX6 21 "OrganCensusModel" "s" "LOrganCensusModel$State;") (List.mem_of_getElem? (i := 2) rfl)) (fun _ h9 => h9) rfl dX6_addOrgan_71 ?_
        refine va_getN (D := G.1) (ci := 7) (v := .ref (ms G 0 7)) (C := RX5) (T := TX5) (N := 21) hx hb hts (fun w9 h9 => List.mem_cons_of_mem _ (List.mem_append_right _ (h9))) hown hK hP (3 + 18 * 0 + (0)) (mv_S G (z3 (su α 6 0 nO x) β (su γ 41 0 0 0)) (show 0 < 2 by decide)) rfl 9 (by decide) (va_Nw.use rfl (hN.1 (RX6, 89, RX5, "pitch", "[I", RX6) (List.mem_of_getElem? (i := 9) rfl))) (fun _ h9 => h9) rfl dX6_addOrgan_74 ?_
        refine lv_aload_n hx hb dX6_addOrgan_77 rfl (lv_at hl 0 rfl) ?_
        refine va_get (D := G.1) (ci := 8) (v := .ref (ms G 0 0)) (C := RX6) (T := TX6) (N := 6) hx hb hts (fun w9 h9 => List.mem_cons_of_mem _ (List.mem_append_left _ (List.mem_append_right _ (h9)))) hown hK hP (0) (mw_M G (z3 (su α 6 0 nO x) β (su γ 41 0 0 0))) rfl 4 (by decide) (hts (.fieldLink RX6 21 "OrganCensusModel" "s" "LOrganCensusModel$State;") (List.mem_of_getElem? (i := 2) rfl)) (fun _ h9 => h9) rfl dX6_addOrgan_78 ?_
        refine va_getN (D := G.1) (ci := 7) (v := .int ((su α 6 0 nO x) 40 0 2)) (C := RX5) (T := TX5) (N := 21) hx hb hts (fun w9 h9 => List.mem_cons_of_mem _ (List.mem_append_right _ (h9))) hown hK hP (3 + 18 * 0 + (0)) (mv_S G (z3 (su α 6 0 nO x) β (su γ 41 0 0 0)) (show 0 < 2 by decide)) rfl 7 (by decide) (va_Nw.use rfl (hN.1 (RX6, 39, RX5, "organs", "I", RX6) (List.mem_of_getElem? (i := 1) rfl))) (fun _ h9 => h9) rfl dX6_addOrgan_81 ?_
        refine lv_iload_n hx hb dX6_addOrgan_84 rfl (lv_at hl 2 rfl) ?_
        refine o_iast (k := nO) hx hb hK hP (mw_D G _ hI) hS (3 + 18 * 0 + (7)) 0 (mv_A7 G (z3 (su α 6 0 nO x) β (su γ 41 0 0 0)) (show 0 < 2 by decide)) rfl hz69_0.2.2.1 (by omega) (by decide) dX6_addOrgan_85 (fun H locs hP hD hS => ?_)
        have hP : va_P G.1 vwCl (mw G (z3 (su (su α 6 0 nO x) 7 0 nO y) β (su γ 41 0 0 0))) H := by rw [← (mu_z0 (a := (su α 6 0 nO x)) (b := β) (c := (su γ 41 0 0 0)) (τ' := su (su α 6 0 nO x) 7 0 nO y) (mvu_A7 G (z3 (su α 6 0 nO x) β (su γ 41 0 0 0)) (show 0 < 2 by decide) nO y))]; exact hP
        clear hD
        have hz85_0 : qOK (su (su α 6 0 nO x) 7 0 nO y) nS nO nH := hz69_0.of (qKp.su _ _ _ _ (by decide))
        refine lv_aload_n hx hb dX6_addOrgan_86 rfl (lv_at hl 0 rfl) ?_
        refine va_get (D := G.1) (ci := 8) (v := .ref (ms G 0 0)) (C := RX6) (T := TX6) (N := 6) hx hb hts (fun w9 h9 => List.mem_cons_of_mem _ (List.mem_append_left _ (List.mem_append_right _ (h9)))) hown hK hP (0) (mw_M G (z3 (su (su α 6 0 nO x) 7 0 nO y) β (su γ 41 0 0 0))) rfl 4 (by decide) (hts (.fieldLink RX6 21 "OrganCensusModel" "s" "LOrganCensusModel$State;") (List.mem_of_getElem? (i := 2) rfl)) (fun _ h9 => h9) rfl dX6_addOrgan_87 ?_
        refine va_getN (D := G.1) (ci := 7) (v := .ref (ms G 0 9)) (C := RX5) (T := TX5) (N := 21) hx hb hts (fun w9 h9 => List.mem_cons_of_mem _ (List.mem_append_right _ (h9))) hown hK hP (3 + 18 * 0 + (0)) (mv_S G (z3 (su (su α 6 0 nO x) 7 0 nO y) β (su γ 41 0 0 0)) (show 0 < 2 by decide)) rfl 11 (by decide) (va_Nw.use rfl (hN.1 (RX6, 92, RX5, "loud", "[I", RX6) (List.mem_of_getElem? (i := 10) rfl))) (fun _ h9 => h9) rfl dX6_addOrgan_90 ?_
        refine lv_aload_n hx hb dX6_addOrgan_93 rfl (lv_at hl 0 rfl) ?_
        refine va_get (D := G.1) (ci := 8) (v := .ref (ms G 0 0)) (C := RX6) (T := TX6) (N := 6) hx hb hts (fun w9 h9 => List.mem_cons_of_mem _ (List.mem_append_left _ (List.mem_append_right _ (h9)))) hown hK hP (0) (mw_M G (z3 (su (su α 6 0 nO x) 7 0 nO y) β (su γ 41 0 0 0))) rfl 4 (by decide) (hts (.fieldLink RX6 21 "OrganCensusModel" "s" "LOrganCensusModel$State;") (List.mem_of_getElem? (i := 2) rfl)) (fun _ h9 => h9) rfl dX6_addOrgan_94 ?_
        refine va_getN (D := G.1) (ci := 7) (v := .int ((su (su α 6 0 nO x) 7 0 nO y) 40 0 2)) (C := RX5) (T := TX5) (N := 21) hx hb hts (fun w9 h9 => List.mem_cons_of_mem _ (List.mem_append_right _ (h9))) hown hK hP (3 + 18 * 0 + (0)) (mv_S G (z3 (su (su α 6 0 nO x) 7 0 nO y) β (su γ 41 0 0 0)) (show 0 < 2 by decide)) rfl 7 (by decide) (va_Nw.use rfl (hN.1 (RX6, 39, RX5, "organs", "I", RX6) (List.mem_of_getElem? (i := 1) rfl))) (fun _ h9 => h9) rfl dX6_addOrgan_97 ?_
        refine lv_iload_n hx hb dX6_addOrgan_100 rfl (lv_at hl 3 rfl) ?_
        refine o_iast (k := nO) hx hb hK hP (mw_D G _ hI) hS (3 + 18 * 0 + (9)) 0 (mv_A9 G (z3 (su (su α 6 0 nO x) 7 0 nO y) β (su γ 41 0 0 0)) (show 0 < 2 by decide)) rfl hz85_0.2.2.1 (by omega) (by decide) dX6_addOrgan_101 (fun H locs hP hD hS => ?_)
        have hP : va_P G.1 vwCl (mw G (z3 (su (su (su α 6 0 nO x) 7 0 nO y) 9 0 nO z) β (su γ 41 0 0 0))) H := by rw [← (mu_z0 (a := (su (su α 6 0 nO x) 7 0 nO y)) (b := β) (c := (su γ 41 0 0 0)) (τ' := su (su (su α 6 0 nO x) 7 0 nO y) 9 0 nO z) (mvu_A9 G (z3 (su (su α 6 0 nO x) 7 0 nO y) β (su γ 41 0 0 0)) (show 0 < 2 by decide) nO z))]; exact hP
        clear hD
        have hz101_0 : qOK (su (su (su α 6 0 nO x) 7 0 nO y) 9 0 nO z) nS nO nH := hz85_0.of (qKp.su _ _ _ _ (by decide))
        refine lv_aload_n hx hb dX6_addOrgan_102 rfl (lv_at hl 0 rfl) ?_
        refine va_get (D := G.1) (ci := 8) (v := .ref (ms G 0 0)) (C := RX6) (T := TX6) (N := 6) hx hb hts (fun w9 h9 => List.mem_cons_of_mem _ (List.mem_append_left _ (List.mem_append_right _ (h9)))) hown hK hP (0) (mw_M G (z3 (su (su (su α 6 0 nO x) 7 0 nO y) 9 0 nO z) β (su γ 41 0 0 0))) rfl 4 (by decide) (hts (.fieldLink RX6 21 "OrganCensusModel" "s" "LOrganCensusModel$State;") (List.mem_of_getElem? (i := 2) rfl)) (fun _ h9 => h9) rfl dX6_addOrgan_103 ?_
        refine va_getN (D := G.1) (ci := 7) (v := .ref (ms G 0 11)) (C := RX5) (T := TX5) (N := 21) hx hb hts (fun w9 h9 => List.mem_cons_of_mem _ (List.mem_append_right _ (h9))) hown hK hP (3 + 18 * 0 + (0)) (mv_S G (z3 (su (su (su α 6 0 nO x) 7 0 nO y) 9 0 nO z) β (su γ 41 0 0 0)) (show 0 < 2 by decide)) rfl 13 (by decide) (va_Nw.use rfl (hN.1 (RX6, 95, RX5, "barrel", "[I", RX6) (List.mem_of_getElem? (i := 11) rfl))) (fun _ h9 => h9) rfl dX6_addOrgan_106 ?_
        refine lv_aload_n hx hb dX6_addOrgan_109 rfl (lv_at hl 0 rfl) ?_
        refine va_get (D := G.1) (ci := 8) (v := .ref (ms G 0 0)) (C := RX6) (T := TX6) (N := 6) hx hb hts (fun w9 h9 => List.mem_cons_of_mem _ (List.mem_append_left _ (List.mem_append_right _ (h9)))) hown hK hP (0) (mw_M G (z3 (su (su (su α 6 0 nO x) 7 0 nO y) 9 0 nO z) β (su γ 41 0 0 0))) rfl 4 (by decide) (hts (.fieldLink RX6 21 "OrganCensusModel" "s" "LOrganCensusModel$State;") (List.mem_of_getElem? (i := 2) rfl)) (fun _ h9 => h9) rfl dX6_addOrgan_110 ?_
        refine va_getN (D := G.1) (ci := 7) (v := .int ((su (su (su α 6 0 nO x) 7 0 nO y) 9 0 nO z) 40 0 2)) (C := RX5) (T := TX5) (N := 21) hx hb hts (fun w9 h9 => List.mem_cons_of_mem _ (List.mem_append_right _ (h9))) hown hK hP (3 + 18 * 0 + (0)) (mv_S G (z3 (su (su (su α 6 0 nO x) 7 0 nO y) 9 0 nO z) β (su γ 41 0 0 0)) (show 0 < 2 by decide)) rfl 7 (by decide) (va_Nw.use rfl (hN.1 (RX6, 39, RX5, "organs", "I", RX6) (List.mem_of_getElem? (i := 1) rfl))) (fun _ h9 => h9) rfl dX6_addOrgan_113 ?_
        refine lv_iconst (v := 1) hx hb dX6_addOrgan_116 (by decide) ?_
        refine o_iast (k := nO) hx hb hK hP (mw_D G _ hI) hS (3 + 18 * 0 + (11)) 0 (mv_A11 G (z3 (su (su (su α 6 0 nO x) 7 0 nO y) 9 0 nO z) β (su γ 41 0 0 0)) (show 0 < 2 by decide)) rfl hz101_0.2.2.1 (by omega) (by decide) dX6_addOrgan_117 (fun H locs hP hD hS => ?_)
        have hP : va_P G.1 vwCl (mw G (z3 (su (su (su (su α 6 0 nO x) 7 0 nO y) 9 0 nO z) 11 0 nO 1) β (su γ 41 0 0 0))) H := by rw [← (mu_z0 (a := (su (su (su α 6 0 nO x) 7 0 nO y) 9 0 nO z)) (b := β) (c := (su γ 41 0 0 0)) (τ' := su (su (su (su α 6 0 nO x) 7 0 nO y) 9 0 nO z) 11 0 nO 1) (mvu_A11 G (z3 (su (su (su α 6 0 nO x) 7 0 nO y) 9 0 nO z) β (su γ 41 0 0 0)) (show 0 < 2 by decide) nO 1))]; exact hP
        clear hD
        refine lv_aload_n hx hb dX6_addOrgan_118 rfl (lv_at hl 0 rfl) ?_
        refine va_get (D := G.1) (ci := 8) (v := .ref (ms G 0 0)) (C := RX6) (T := TX6) (N := 6) hx hb hts (fun w9 h9 => List.mem_cons_of_mem _ (List.mem_append_left _ (List.mem_append_right _ (h9)))) hown hK hP (0) (mw_M G (z3 (su (su (su (su α 6 0 nO x) 7 0 nO y) 9 0 nO z) 11 0 nO 1) β (su γ 41 0 0 0))) rfl 4 (by decide) (hts (.fieldLink RX6 21 "OrganCensusModel" "s" "LOrganCensusModel$State;") (List.mem_of_getElem? (i := 2) rfl)) (fun _ h9 => h9) rfl dX6_addOrgan_119 ?_
        refine lv_dup hx hb dX6_addOrgan_122 rfl ?_
        refine va_getN (D := G.1) (ci := 7) (v := .int ((su (su (su (su α 6 0 nO x) 7 0 nO y) 9 0 nO z) 11 0 nO 1) 40 0 2)) (C := RX5) (T := TX5) (N := 21) hx hb hts (fun w9 h9 => List.mem_cons_of_mem _ (List.mem_append_right _ (h9))) hown hK hP (3 + 18 * 0 + (0)) (mv_S G (z3 (su (su (su (su α 6 0 nO x) 7 0 nO y) 9 0 nO z) 11 0 nO 1) β (su γ 41 0 0 0)) (show 0 < 2 by decide)) rfl 7 (by decide) (va_Nw.use rfl (hN.1 (RX6, 39, RX5, "organs", "I", RX6) (List.mem_of_getElem? (i := 1) rfl))) (fun _ h9 => h9) rfl dX6_addOrgan_123 ?_
        refine lv_iconst (v := 1) hx hb dX6_addOrgan_126 (by decide) ?_
        refine lv_iadd hx hb dX6_addOrgan_127 ?_
        rw [show (su (su (su (su α 6 0 nO x) 7 0 nO y) 9 0 nO z) 11 0 nO 1) 40 0 2 + 1 = nI (nO + 1) from by rw [su_k _ _ _ _ (by decide), hz101_0.2.2.1, nI_1]]
        refine va_putN (D := G.1) (ci := 7) (v := .int (nI (nO + 1))) (ty := .int) (C := RX5) (T := TX5) (N := 21) hx hb hts (fun w9 h9 => List.mem_cons_of_mem _ (List.mem_append_right _ (h9))) tyX5 tyX5_ok nmX5 hown hK hP (mw_D G _ hI) hS (3 + 18 * 0 + (0)) (mv_S G (z3 (su (su (su (su α 6 0 nO x) 7 0 nO y) 9 0 nO z) 11 0 nO 1) β (su γ 41 0 0 0)) (show 0 < 2 by decide)) rfl 7 (by decide) (va_Nw.use rfl (hN.1 (RX6, 39, RX5, "organs", "I", RX6) (List.mem_of_getElem? (i := 1) rfl))) (fun _ h9 => h9) rfl (by decide +kernel) rfl rfl (Nat.le_of_ble_eq_true rfl) dX6_addOrgan_128 (fun H locs hP hD hS => ?_)
        have hP : va_P G.1 vwCl (mw G (z3 (su (su (su (su (su α 6 0 nO x) 7 0 nO y) 9 0 nO z) 11 0 nO 1) 40 0 2 (nI (nO + 1))) β (su γ 41 0 0 0))) H := by rw [← (mu_z0 (a := (su (su (su (su α 6 0 nO x) 7 0 nO y) 9 0 nO z) 11 0 nO 1)) (b := β) (c := (su γ 41 0 0 0)) (τ' := su (su (su (su (su α 6 0 nO x) 7 0 nO y) 9 0 nO z) 11 0 nO 1) 40 0 2 (nI (nO + 1))) (mvu_S2 G (z3 (su (su (su (su α 6 0 nO x) 7 0 nO y) 9 0 nO z) 11 0 nO 1) β (su γ 41 0 0 0)) (show 0 < 2 by decide) (nI (nO + 1))))]; exact hP
        clear hD
        refine lv_aload_n hx hb dX6_addOrgan_131 rfl (lv_at hl 0 rfl) ?_
        refine va_get (D := G.1) (ci := 8) (v := .ref (ms G 0 0)) (C := RX6) (T := TX6) (N := 6) hx hb hts (fun w9 h9 => List.mem_cons_of_mem _ (List.mem_append_left _ (List.mem_append_right _ (h9)))) hown hK hP (0) (mw_M G (z3 (su (su (su (su (su α 6 0 nO x) 7 0 nO y) 9 0 nO z) 11 0 nO 1) 40 0 2 (nI (nO + 1))) β (su γ 41 0 0 0))) rfl 4 (by decide) (hts (.fieldLink RX6 21 "OrganCensusModel" "s" "LOrganCensusModel$State;") (List.mem_of_getElem? (i := 2) rfl)) (fun _ h9 => h9) rfl dX6_addOrgan_132 ?_
        refine va_getN (D := G.1) (ci := 7) (v := .int ((su (su (su (su (su α 6 0 nO x) 7 0 nO y) 9 0 nO z) 11 0 nO 1) 40 0 2 (nI (nO + 1))) 40 0 2)) (C := RX5) (T := TX5) (N := 21) hx hb hts (fun w9 h9 => List.mem_cons_of_mem _ (List.mem_append_right _ (h9))) hown hK hP (3 + 18 * 0 + (0)) (mv_S G (z3 (su (su (su (su (su α 6 0 nO x) 7 0 nO y) 9 0 nO z) 11 0 nO 1) 40 0 2 (nI (nO + 1))) β (su γ 41 0 0 0)) (show 0 < 2 by decide)) rfl 7 (by decide) (va_Nw.use rfl (hN.1 (RX6, 39, RX5, "organs", "I", RX6) (List.mem_of_getElem? (i := 1) rfl))) (fun _ h9 => h9) rfl dX6_addOrgan_135 ?_
        refine lv_iconst (v := 1) hx hb dX6_addOrgan_138 (by decide) ?_
        refine lv_isub hx hb dX6_addOrgan_139 ?_
        exact o_iretM hx hb hr hlocks hS dX6_addOrgan_140 (by have hP9 := hP; simp (decide := true) only [cAdd, mT, c11, c27, c45, n45, Bool.true_and, Bool.and_true, Bool.false_and, Bool.and_false, Bool.false_eq_true, if_true, if_false, reduceIte, not_true_eq_false, not_false_eq_true, and_true, and_false, true_and, false_and, Nat.reduceEqDiff, reduceCtorEq]; first | exact hP9 | (rw [su_su] at hP9; exact hP9)) (by first | (rw [su_s, nI_pred]; simp (decide := true) only [cAdd, c11, c27, c45, n45, Bool.true_and, Bool.and_true, Bool.false_and, Bool.and_false, Bool.false_eq_true, if_true, if_false, reduceIte, not_true_eq_false, not_false_eq_true, and_true, and_false, true_and, false_and, Nat.reduceEqDiff, reduceCtorEq]) | (simp (decide := true) only [cAdd, c11, c27, c45, n45, Bool.true_and, Bool.and_true, Bool.false_and, Bool.and_false, Bool.false_eq_true, if_true, if_false, reduceIte, not_true_eq_false, not_false_eq_true, and_true, and_false, true_and, false_and, Nat.reduceEqDiff, reduceCtorEq]))
      · have n45 := (o_neq (a := nO) (b := 8) hz.2.2.1 (by decide) (by omega) (by omega)).mp c45
        refine lv_aload_n hx hb dX6_addOrgan_48 rfl (lv_at hl 0 rfl) ?_
        refine lv_iconst (v := 3) hx hb dX6_addOrgan_49 (by decide) ?_
        refine o_cVmi (q0 := 0) (ci := 8) [.int 3] [] ⟨hx, hb, hml, hown, hts⟩ (m_X6_no l G hI α β (su γ 41 0 0 0) 3) (cwV 1 hts gX6_addOrgan_X6_no rfl rfl rfl (by decide +kernel) ⟨Nat.le_of_ble_eq_true rfl, Nat.le_of_ble_eq_true rfl⟩) hK hN hP hS rfl rfl (mw_M G (z3 α β (su γ 41 0 0 0))) rfl hl.1 rfl (Nat.le_of_ble_eq_true rfl) dX6_addOrgan_50 ⟨Nat.zero_le _, Nat.zero_le _⟩ (fun H locs hP hS => ?_)
        exact o_iretM hx hb hr hlocks hS dX6_addOrgan_53 (by have hP9 := hP; simp (decide := true) only [cAdd, mT, c11, c27, c45, n45, Bool.true_and, Bool.and_true, Bool.false_and, Bool.and_false, Bool.false_eq_true, if_true, if_false, reduceIte, not_true_eq_false, not_false_eq_true, and_true, and_false, true_and, false_and, Nat.reduceEqDiff, reduceCtorEq]; first | exact hP9 | (rw [su_su] at hP9; exact hP9)) (by first | (rw [su_s, nI_pred]; simp (decide := true) only [cAdd, c11, c27, c45, n45, Bool.true_and, Bool.and_true, Bool.false_and, Bool.and_false, Bool.false_eq_true, if_true, if_false, reduceIte, not_true_eq_false, not_false_eq_true, and_true, and_false, true_and, false_and, Nat.reduceEqDiff, reduceCtorEq]) | (simp (decide := true) only [cAdd, c11, c27, c45, n45, Bool.true_and, Bool.and_true, Bool.false_and, Bool.and_false, Bool.false_eq_true, if_true, if_false, reduceIte, not_true_eq_false, not_false_eq_true, and_true, and_false, true_and, false_and, Nat.reduceEqDiff, reduceCtorEq]))
    · have c27 := bI_eq.mp c27
      refine lv_aload_n hx hb dX6_addOrgan_30 rfl (lv_at hl 0 rfl) ?_
      refine lv_iconst (v := 2) hx hb dX6_addOrgan_31 (by decide) ?_
      refine o_cVmi (q0 := 0) (ci := 8) [.int 2] [] ⟨hx, hb, hml, hown, hts⟩ (m_X6_no l G hI α β (su γ 41 0 0 0) 2) (cwV 1 hts gX6_addOrgan_X6_no rfl rfl rfl (by decide +kernel) ⟨Nat.le_of_ble_eq_true rfl, Nat.le_of_ble_eq_true rfl⟩) hK hN hP hS rfl rfl (mw_M G (z3 α β (su γ 41 0 0 0))) rfl hl.1 rfl (Nat.le_of_ble_eq_true rfl) dX6_addOrgan_32 ⟨Nat.zero_le _, Nat.zero_le _⟩ (fun H locs hP hS => ?_)
      exact o_iretM hx hb hr hlocks hS dX6_addOrgan_35 (by have hP9 := hP; simp (decide := true) only [cAdd, mT, c11, c27, Bool.true_and, Bool.and_true, Bool.false_and, Bool.and_false, Bool.false_eq_true, if_true, if_false, reduceIte, not_true_eq_false, not_false_eq_true, and_true, and_false, true_and, false_and, Nat.reduceEqDiff, reduceCtorEq]; first | exact hP9 | (rw [su_su] at hP9; exact hP9)) (by first | (rw [su_s, nI_pred]; simp (decide := true) only [cAdd, c11, c27, Bool.true_and, Bool.and_true, Bool.false_and, Bool.and_false, Bool.false_eq_true, if_true, if_false, reduceIte, not_true_eq_false, not_false_eq_true, and_true, and_false, true_and, false_and, Nat.reduceEqDiff, reduceCtorEq]) | (simp (decide := true) only [cAdd, c11, c27, Bool.true_and, Bool.and_true, Bool.false_and, Bool.and_false, Bool.false_eq_true, if_true, if_false, reduceIte, not_true_eq_false, not_false_eq_true, and_true, and_false, true_and, false_and, Nat.reduceEqDiff, reduceCtorEq]))
  · have c11 := bI_eq.mp c11
    refine lv_aload_n hx hb dX6_addOrgan_14 rfl (lv_at hl 0 rfl) ?_
    refine lv_iconst (v := 1) hx hb dX6_addOrgan_15 (by decide) ?_
    refine o_cVmi (q0 := 0) (ci := 8) [.int 1] [] ⟨hx, hb, hml, hown, hts⟩ (m_X6_no l G hI α β (su γ 41 0 0 0) 1) (cwV 1 hts gX6_addOrgan_X6_no rfl rfl rfl (by decide +kernel) ⟨Nat.le_of_ble_eq_true rfl, Nat.le_of_ble_eq_true rfl⟩) hK hN hP hS rfl rfl (mw_M G (z3 α β (su γ 41 0 0 0))) rfl hl.1 rfl (Nat.le_of_ble_eq_true rfl) dX6_addOrgan_16 ⟨Nat.zero_le _, Nat.zero_le _⟩ (fun H locs hP hS => ?_)
    exact o_iretM hx hb hr hlocks hS dX6_addOrgan_19 (by have hP9 := hP; simp (decide := true) only [cAdd, mT, c11, Bool.true_and, Bool.and_true, Bool.false_and, Bool.and_false, Bool.false_eq_true, if_true, if_false, reduceIte, not_true_eq_false, not_false_eq_true, and_true, and_false, true_and, false_and, Nat.reduceEqDiff, reduceCtorEq]; first | exact hP9 | (rw [su_su] at hP9; exact hP9)) (by first | (rw [su_s, nI_pred]; simp (decide := true) only [cAdd, c11, Bool.true_and, Bool.and_true, Bool.false_and, Bool.and_false, Bool.false_eq_true, if_true, if_false, reduceIte, not_true_eq_false, not_false_eq_true, and_true, and_false, true_and, false_and, Nat.reduceEqDiff, reduceCtorEq]) | (simp (decide := true) only [cAdd, c11, Bool.true_and, Bool.and_true, Bool.false_and, Bool.and_false, Bool.false_eq_true, if_true, if_false, reduceIte, not_true_eq_false, not_false_eq_true, and_true, and_false, true_and, false_and, Nat.reduceEqDiff, reduceCtorEq]))
set_option maxHeartbeats 4000000 in
set_option maxRecDepth 100000 in
theorem m_X6_banished (l : Launch) (G : oG) (hI : wl_I G.2.1 39) (α β γ : oT) (nS : Nat) (nO : Nat) (nH : Nat) (hz : qOK α nS nO nH) (x : Int32) (y : Int32) : Met l yX6_banished wsX6_banished ({ frames := 2, cells := 0, slots := 0, locals := 43 } : Room) (va_Pc [.ref (G.2.1 0), .int x, .int y] (PW G (mw G (z3 α β γ)))) (oQ (some (.int (if cBan nS nO x y = 0 then α 15 0 (6 * oN x + oN y) else 0))) (fun H9 => va_P G.1 vwCl (mw G (z3 α β (mT γ (cBan nS nO x y)))) H9) (mA G)) 0 0 (mA G) := by
  refine o_body (cc := cX6_banished) (by decide +kernel) rfl (Nat.le_of_ble_eq_true rfl) ?_
  intro p e s m below meth c ls hx hb hml hr hlocks hown hts hP hK hN hl
  have hown : s.vm.findClass RX6 = some m.cls := hown
  have hl : lv_has ls 3 [(0, .ref (G.2.1 0)), (1, .int x), (2, .int y)] := hl
  have hS : va_S (mA G) s.heap s.heap [] := va_S.rf
  obtain ⟨hz1, hz2, hz3, hz4, hz5, hz6, hz7, hz8⟩ := id hz
  refine lv_aload_n hx hb dX6_banished_0 rfl (lv_at hl 0 rfl) ?_
  refine lv_iconst (v := 0) hx hb dX6_banished_1 (by decide) ?_
  refine va_put (D := G.1) (ci := 8) (v := .int 0) (ty := .int) (C := RX6) (T := TX6) (N := 6) hx hb hts (fun w9 h9 => List.mem_cons_of_mem _ (List.mem_append_left _ (List.mem_append_right _ (h9)))) tyX6 tyX6_ok nmX6 hown hK hP (mw_D G _ hI) hS (0) (mw_M G (z3 α β γ)) rfl 0 (by decide) (hts (.fieldLink RX6 28 "OrganCensusModel" "thrown" "I") (List.mem_of_getElem? (i := 1) rfl)) (fun _ h9 => h9) rfl (by decide +kernel) rfl rfl (Nat.le_of_ble_eq_true rfl) dX6_banished_2 (fun H locs hP hD hS => ?_)
  have hP : va_P G.1 vwCl (mw G (z3 α β (su γ 41 0 0 0))) H := by rw [← (mw_zP (a := α) (b := β) (c := γ) (τ' := su γ 41 0 0 0) (mw_uM0 G (z3 α β γ) 0))]; exact hP
  clear hD
  refine lv_aload_n hx hb dX6_banished_5 rfl (lv_at hl 0 rfl) ?_
  refine lv_iload_n hx hb dX6_banished_6 rfl (lv_at hl 1 rfl) ?_
  refine o_cVi (q0 := 0) (ci := 8) [.int x] [] ⟨hx, hb, hml, hown, hts⟩ (m_X6_isOrgan l G α β (su γ 41 0 0 0) nS nO nH hz x) (cwV 1 hts gX6_banished_X6_isOrgan rfl rfl rfl (by decide +kernel) ⟨Nat.le_of_ble_eq_true rfl, Nat.le_of_ble_eq_true rfl⟩) hK hN hP rfl rfl (mw_M G (z3 α β (su γ 41 0 0 0))) rfl hl.1 rfl (Nat.le_of_ble_eq_true rfl) dX6_banished_7 ⟨Nat.zero_le _, Nat.zero_le _⟩ ?_
  refine lv_if_eq (tgt := 38) hx hb dX6_banished_10 (by decide) (fun c10 => ?_) (fun c10 => ?_)
  · have c10 := bI_eq.mp c10
    refine lv_aload_n hx hb dX6_banished_38 rfl (lv_at hl 0 rfl) ?_
    refine lv_iconst (v := 1) hx hb dX6_banished_39 (by decide) ?_
    refine o_cVmi (q0 := 0) (ci := 8) [.int 1] [] ⟨hx, hb, hml, hown, hts⟩ (m_X6_no l G hI α β (su γ 41 0 0 0) 1) (cwV 1 hts gX6_banished_X6_no rfl rfl rfl (by decide +kernel) ⟨Nat.le_of_ble_eq_true rfl, Nat.le_of_ble_eq_true rfl⟩) hK hN hP hS rfl rfl (mw_M G (z3 α β (su γ 41 0 0 0))) rfl hl.1 rfl (Nat.le_of_ble_eq_true rfl) dX6_banished_40 ⟨Nat.zero_le _, Nat.zero_le _⟩ (fun H locs hP hS => ?_)
    exact o_iretM hx hb hr hlocks hS dX6_banished_43 (by have hP9 := hP; simp (decide := true) only [cBan, mT, c10, Bool.true_and, Bool.and_true, Bool.false_and, Bool.and_false, Bool.false_eq_true, if_true, if_false, reduceIte, not_true_eq_false, not_false_eq_true, and_true, and_false, true_and, false_and, Nat.reduceEqDiff, reduceCtorEq]; first | exact hP9 | (rw [su_su] at hP9; exact hP9)) (by simp (decide := true) only [cBan, mT, c10, Bool.true_and, Bool.and_true, Bool.false_and, Bool.and_false, Bool.false_eq_true, if_true, if_false, reduceIte, not_true_eq_false, not_false_eq_true, and_true, and_false, true_and, false_and, Nat.reduceEqDiff, reduceCtorEq]; try rfl)
  · have c10 := bI_ne.mp c10
    have n10 := oIn_lt (by omega) c10
    refine lv_aload_n hx hb dX6_banished_13 rfl (lv_at hl 0 rfl) ?_
    refine lv_iload_n hx hb dX6_banished_14 rfl (lv_at hl 2 rfl) ?_
    refine o_cVi (q0 := 0) (ci := 8) [.int y] [] ⟨hx, hb, hml, hown, hts⟩ (m_X6_isStreet l G α β (su γ 41 0 0 0) nS nO nH hz y) (cwV 1 hts gX6_banished_X6_isStreet rfl rfl rfl (by decide +kernel) ⟨Nat.le_of_ble_eq_true rfl, Nat.le_of_ble_eq_true rfl⟩) hK hN hP rfl rfl (mw_M G (z3 α β (su γ 41 0 0 0))) rfl hl.1 rfl (Nat.le_of_ble_eq_true rfl) dX6_banished_15 ⟨Nat.zero_le _, Nat.zero_le _⟩ ?_
    refine lv_if_eq (tgt := 38) hx hb dX6_banished_18 (by decide) (fun c18 => ?_) (fun c18 => ?_)
    · have c18 := bI_eq.mp c18
      refine lv_aload_n hx hb dX6_banished_38 rfl (lv_at hl 0 rfl) ?_
      refine lv_iconst (v := 1) hx hb dX6_banished_39 (by decide) ?_
      refine o_cVmi (q0 := 0) (ci := 8) [.int 1] [] ⟨hx, hb, hml, hown, hts⟩ (m_X6_no l G hI α β (su γ 41 0 0 0) 1) (cwV 1 hts gX6_banished_X6_no rfl rfl rfl (by decide +kernel) ⟨Nat.le_of_ble_eq_true rfl, Nat.le_of_ble_eq_true rfl⟩) hK hN hP hS rfl rfl (mw_M G (z3 α β (su γ 41 0 0 0))) rfl hl.1 rfl (Nat.le_of_ble_eq_true rfl) dX6_banished_40 ⟨Nat.zero_le _, Nat.zero_le _⟩ (fun H locs hP hS => ?_)
      exact o_iretM hx hb hr hlocks hS dX6_banished_43 (by have hP9 := hP; simp (decide := true) only [cBan, mT, c10, c18, Bool.true_and, Bool.and_true, Bool.false_and, Bool.and_false, Bool.false_eq_true, if_true, if_false, reduceIte, not_true_eq_false, not_false_eq_true, and_true, and_false, true_and, false_and, Nat.reduceEqDiff, reduceCtorEq]; first | exact hP9 | (rw [su_su] at hP9; exact hP9)) (by simp (decide := true) only [cBan, mT, c10, c18, Bool.true_and, Bool.and_true, Bool.false_and, Bool.and_false, Bool.false_eq_true, if_true, if_false, reduceIte, not_true_eq_false, not_false_eq_true, and_true, and_false, true_and, false_and, Nat.reduceEqDiff, reduceCtorEq]; try rfl)
    · have c18 := bI_ne.mp c18
      have n18 := oIn_lt (by omega) c18
      refine lv_aload_n hx hb dX6_banished_21 rfl (lv_at hl 0 rfl) ?_
      refine va_get (D := G.1) (ci := 8) (v := .ref (ms G 0 0)) (C := RX6) (T := TX6) (N := 6) hx hb hts (fun w9 h9 => List.mem_cons_of_mem _ (List.mem_append_left _ (List.mem_append_right _ (h9)))) hown hK hP (0) (mw_M G (z3 α β (su γ 41 0 0 0))) rfl 4 (by decide) (hts (.fieldLink RX6 21 "OrganCensusModel" "s" "LOrganCensusModel$State;") (List.mem_of_getElem? (i := 2) rfl)) (fun _ h9 => h9) rfl dX6_banished_22 ?_
      refine va_getN (D := G.1) (ci := 7) (v := .ref (ms G 0 15)) (C := RX5) (T := TX5) (N := 21) hx hb hts (fun w9 h9 => List.mem_cons_of_mem _ (List.mem_append_right _ (h9))) hown hK hP (3 + 18 * 0 + (0)) (mv_S G (z3 α β (su γ 41 0 0 0)) (show 0 < 2 by decide)) rfl 17 (by decide) (va_Nw.use rfl (hN.1 (RX6, 111, RX5, "banished", "[I", RX6) (List.mem_of_getElem? (i := 14) rfl))) (fun _ h9 => h9) rfl dX6_banished_25 ?_
      refine lv_bipush (v := 6) hx hb dX6_banished_28 (by decide) ?_
      refine lv_iload_n hx hb dX6_banished_30 rfl (lv_at hl 1 rfl) ?_
      refine lv_imul hx hb dX6_banished_31 ?_
      refine lv_iload_n hx hb dX6_banished_32 rfl (lv_at hl 2 rfl) ?_
      refine lv_iadd hx hb dX6_banished_33 ?_
      refine o_iald (k := (6 * (oN x)) + (oN y)) hx hb hK hP (3 + 18 * 0 + (15)) 0 (mv_A15 G (z3 α β (su γ 41 0 0 0)) (show 0 < 2 by decide)) rfl (o_nadd (o_nmul (by decide) (oIn_x c10)) (oIn_x c18)) (by omega) (by decide) dX6_banished_34 ?_
      refine lv_goto (tgt := 43) hx hb dX6_banished_35 (by decide) ?_
      exact o_iretM hx hb hr hlocks hS dX6_banished_43 (by have hP9 := hP; simp (decide := true) only [cBan, mT, c10, c18, Bool.true_and, Bool.and_true, Bool.false_and, Bool.and_false, Bool.false_eq_true, if_true, if_false, reduceIte, not_true_eq_false, not_false_eq_true, and_true, and_false, true_and, false_and, Nat.reduceEqDiff, reduceCtorEq]; first | exact hP9 | (rw [su_su] at hP9; exact hP9)) (by simp (decide := true) only [cBan, mT, c10, c18, Bool.true_and, Bool.and_true, Bool.false_and, Bool.and_false, Bool.false_eq_true, if_true, if_false, reduceIte, not_true_eq_false, not_false_eq_true, and_true, and_false, true_and, false_and, Nat.reduceEqDiff, reduceCtorEq]; try rfl)
set_option maxHeartbeats 4000000 in
set_option maxRecDepth 100000 in
theorem m_X6_heard (l : Launch) (G : oG) (hI : wl_I G.2.1 39) (α β γ : oT) (nS : Nat) (nO : Nat) (nH : Nat) (hz : qOK α nS nO nH) (x : Int32) (y : Int32) : Met l yX6_heard wsX6_heard ({ frames := 4, cells := 0, slots := 0, locals := 95 } : Room) (va_Pc [.ref (G.2.1 0), .int x, .int y] (PW G (mw G (z3 α β γ)))) (oQ (some (.int (if cHeard nS (qNp α) x y = 0 then qHeard α nO x y else 0))) (fun H9 => va_P G.1 vwCl (mw G (z3 α β (mT γ (cHeard nS (qNp α) x y)))) H9) (mA G)) 0 0 (mA G) := by
  refine o_body (cc := cX6_heard) (by decide +kernel) rfl (Nat.le_of_ble_eq_true rfl) ?_
  intro p e s m below meth c ls hx hb hml hr hlocks hown hts hP hK hN hl
  have hown : s.vm.findClass RX6 = some m.cls := hown
  have hl : lv_has ls 3 [(0, .ref (G.2.1 0)), (1, .int x), (2, .int y)] := hl
  have hS : va_S (mA G) s.heap s.heap [] := va_S.rf
  obtain ⟨hz1, hz2, hz3, hz4, hz5, hz6, hz7, hz8⟩ := id hz
  refine lv_aload_n hx hb dX6_heard_0 rfl (lv_at hl 0 rfl) ?_
  refine lv_iconst (v := 0) hx hb dX6_heard_1 (by decide) ?_
  refine va_put (D := G.1) (ci := 8) (v := .int 0) (ty := .int) (C := RX6) (T := TX6) (N := 6) hx hb hts (fun w9 h9 => List.mem_cons_of_mem _ (List.mem_append_left _ (List.mem_append_right _ (h9)))) tyX6 tyX6_ok nmX6 hown hK hP (mw_D G _ hI) hS (0) (mw_M G (z3 α β γ)) rfl 0 (by decide) (hts (.fieldLink RX6 28 "OrganCensusModel" "thrown" "I") (List.mem_of_getElem? (i := 1) rfl)) (fun _ h9 => h9) rfl (by decide +kernel) rfl rfl (Nat.le_of_ble_eq_true rfl) dX6_heard_2 (fun H locs hP hD hS => ?_)
  have hP : va_P G.1 vwCl (mw G (z3 α β (su γ 41 0 0 0))) H := by rw [← (mw_zP (a := α) (b := β) (c := γ) (τ' := su γ 41 0 0 0) (mw_uM0 G (z3 α β γ) 0))]; exact hP
  clear hD
  refine lv_aload_n hx hb dX6_heard_5 rfl (lv_at hl 0 rfl) ?_
  refine lv_iload_n hx hb dX6_heard_6 rfl (lv_at hl 1 rfl) ?_
  refine lv_iload_n hx hb dX6_heard_7 rfl (lv_at hl 2 rfl) ?_
  refine o_cVi (q0 := 0) (ci := 8) [.int x, .int y] [] ⟨hx, hb, hml, hown, hts⟩ (m_X6_isPitch l G α β (su γ 41 0 0 0) nS nO nH hz x y) (cwV 2 hts gX6_heard_X6_isPitch rfl rfl rfl (by decide +kernel) ⟨Nat.le_of_ble_eq_true rfl, Nat.le_of_ble_eq_true rfl⟩) hK hN hP rfl rfl (mw_M G (z3 α β (su γ 41 0 0 0))) rfl hl.1 rfl (Nat.le_of_ble_eq_true rfl) dX6_heard_8 ⟨Nat.zero_le _, Nat.zero_le _⟩ ?_
  refine lv_if_eq (tgt := 26) hx hb dX6_heard_11 (by decide) (fun c11 => ?_) (fun c11 => ?_)
  · have c11 := bI_eq.mp c11
    refine lv_aload_n hx hb dX6_heard_26 rfl (lv_at hl 0 rfl) ?_
    refine lv_iconst (v := 1) hx hb dX6_heard_27 (by decide) ?_
    refine o_cVmi (q0 := 0) (ci := 8) [.int 1] [] ⟨hx, hb, hml, hown, hts⟩ (m_X6_no l G hI α β (su γ 41 0 0 0) 1) (cwV 1 hts gX6_heard_X6_no rfl rfl rfl (by decide +kernel) ⟨Nat.le_of_ble_eq_true rfl, Nat.le_of_ble_eq_true rfl⟩) hK hN hP hS rfl rfl (mw_M G (z3 α β (su γ 41 0 0 0))) rfl hl.1 rfl (Nat.le_of_ble_eq_true rfl) dX6_heard_28 ⟨Nat.zero_le _, Nat.zero_le _⟩ (fun H locs hP hS => ?_)
    exact o_iretM hx hb hr hlocks hS dX6_heard_31 (by have hP9 := hP; simp (decide := true) only [cHeard, mT, c11, Bool.true_and, Bool.and_true, Bool.false_and, Bool.and_false, Bool.false_eq_true, if_true, if_false, reduceIte, not_true_eq_false, not_false_eq_true, and_true, and_false, true_and, false_and, Nat.reduceEqDiff, reduceCtorEq]; first | exact hP9 | (rw [su_su] at hP9; exact hP9)) (by simp (decide := true) only [cHeard, mT, c11, Bool.true_and, Bool.and_true, Bool.false_and, Bool.and_false, Bool.false_eq_true, if_true, if_false, reduceIte, not_true_eq_false, not_false_eq_true, and_true, and_false, true_and, false_and, Nat.reduceEqDiff, reduceCtorEq]; try rfl)
  · have c11 := bI_ne.mp c11
    have c111 := ((Bool.and_eq_true _ _).mp c11).1
    have c112 := ((Bool.and_eq_true _ _).mp c11).2
    have n111 := oIn_lt (by omega) c111
    have hp112 := (hz.2.2.2.2.2.2.1 (oN x) (by omega)).2
    have n112 := oIn_lt (by omega) c112
    refine lv_aload_n hx hb dX6_heard_14 rfl (lv_at hl 0 rfl) ?_
    refine va_get (D := G.1) (ci := 8) (v := .ref (ms G 0 0)) (C := RX6) (T := TX6) (N := 6) hx hb hts (fun w9 h9 => List.mem_cons_of_mem _ (List.mem_append_left _ (List.mem_append_right _ (h9)))) hown hK hP (0) (mw_M G (z3 α β (su γ 41 0 0 0))) rfl 4 (by decide) (hts (.fieldLink RX6 21 "OrganCensusModel" "s" "LOrganCensusModel$State;") (List.mem_of_getElem? (i := 2) rfl)) (fun _ h9 => h9) rfl dX6_heard_15 ?_
    refine lv_iload_n hx hb dX6_heard_18 rfl (lv_at hl 1 rfl) ?_
    refine lv_iload_n hx hb dX6_heard_19 rfl (lv_at hl 2 rfl) ?_
    have hP : va_P G.1 vwCl (mtw G (z3 α β (su γ 41 0 0 0)) 0 α) H := by rw [mz0]; exact hP
    refine o_cVi (q0 := 3 + 18 * 0 + (0)) (ci := 7) [.int x, .int y] [] ⟨hx, hb, hml, hown, hts⟩ (m_X5_heard l G (z3 α β (su γ 41 0 0 0)) (show 0 < 2 by decide) α nS nO nH hz x y) (cwV 2 hts gX6_heard_X5_heard rfl rfl rfl (by decide +kernel) ⟨Nat.le_of_ble_eq_true rfl, Nat.le_of_ble_eq_true rfl⟩) hK hN hP rfl rfl (mt_S G (z3 α β (su γ 41 0 0 0)) (show 0 < 2 by decide) α) rfl hl.1 rfl (Nat.le_of_ble_eq_true rfl) dX6_heard_20 ⟨Nat.zero_le _, Nat.zero_le _⟩ ?_
    have hP : va_P G.1 vwCl (mw G (z3 α β (su γ 41 0 0 0))) H := by rw [mz0] at hP; exact hP
    refine lv_goto (tgt := 31) hx hb dX6_heard_23 (by decide) ?_
    exact o_iretM hx hb hr hlocks hS dX6_heard_31 (by have hP9 := hP; simp (decide := true) only [cHeard, mT, c11, Bool.true_and, Bool.and_true, Bool.false_and, Bool.and_false, Bool.false_eq_true, if_true, if_false, reduceIte, not_true_eq_false, not_false_eq_true, and_true, and_false, true_and, false_and, Nat.reduceEqDiff, reduceCtorEq]; first | exact hP9 | (rw [su_su] at hP9; exact hP9)) (by simp (decide := true) only [cHeard, mT, c11, Bool.true_and, Bool.and_true, Bool.false_and, Bool.and_false, Bool.false_eq_true, if_true, if_false, reduceIte, not_true_eq_false, not_false_eq_true, and_true, and_false, true_and, false_and, Nat.reduceEqDiff, reduceCtorEq]; try rfl)
set_option maxHeartbeats 4000000 in
set_option maxRecDepth 100000 in
theorem m_X6_isBarrel (l : Launch) (G : oG) (wd : va_W) (x : Int32) : Met l yX6_isBarrel wsX6_isBarrel ({ frames := 1, cells := 0, slots := 0, locals := 22 } : Room) (va_Pc [.int x] (PW G wd)) (oR (some (.int (bI (oBar x))))) 0 0 (fun _ => False) := by
  refine o_body (cc := cX6_isBarrel) (by decide +kernel) rfl (Nat.le_of_ble_eq_true rfl) ?_
  intro p e s m below meth c ls hx hb hml hr hlocks hown hts hP hK hN hl
  have hown : s.vm.findClass RX6 = some m.cls := hown
  have hl : lv_has ls 3 [(0, .int x)] := hl
  refine lv_iload_n hx hb dX6_isBarrel_0 rfl (lv_at hl 0 rfl) ?_
  refine lv_if_le (tgt := 14) hx hb dX6_isBarrel_1 (by decide) (fun c1 => ?_) (fun c1 => ?_)
  · refine lv_iconst (v := 0) hx hb dX6_isBarrel_14 (by decide) ?_
    refine lv_istore_n (lv' := [(1, .int 0), (0, .int x)]) hx hb dX6_isBarrel_15 rfl hl (by decide) rfl (fun ls hl => ?_)
    refine lv_iload_n hx hb dX6_isBarrel_16 rfl (lv_at hl 1 rfl) ?_
    refine lv_istore_n (lv' := [(2, .int x), (1, .int 0), (0, .int x)]) hx hb dX6_isBarrel_17 rfl hl (by decide) rfl (fun ls hl => ?_)
    have lp18 : ∀ (d18 k : Nat), k + d18 = 40 → ∀ x18_1 : Int32, x18_1 = (bI (oBi x k)) → ∀ x18_2 : Int32, x18_2 = (oBr x k) → (oBg x k) → ∀ ls : Array Slot, lv_has ls 3 [(0, .int x), (1, .int x18_1), (2, .int x18_2)] → W p l e ({ frames := 1, cells := 0, slots := 0, locals := 22 } : Room) s m ([.int x] : List Value).toArray below meth c s.heap [] 0 0 (MQ below (oR (some (.int (bI (oBar x))))) ([.int x] : List Value).toArray s 0 0 (fun _ => False)) (F0 m 18 ls []) := by
      intro d18
      induction d18 with
      | zero =>
        intro k hk18 x18_1 e18_1 x18_2 e18_2 hq ls hl
        subst e18_1
        subst e18_2
        have hk18 : k = 40 := by omega
        subst hk18
        have hF : False := oBg_end hq
        refine lv_iload_n hx hb dX6_isBarrel_18 rfl (lv_at hl 2 rfl) ?_
        refine lv_if_le (tgt := 45) hx hb dX6_isBarrel_19 (by decide) (fun c19 => ?_) (fun c19 => ?_)
        · exact hF.elim
        · exact hF.elim
      | succ d18 ih18 =>
        intro k hk18 x18_1 e18_1 x18_2 e18_2 hq ls hl
        subst e18_1
        subst e18_2
        have hj18 : k < 40 := by omega
        refine lv_iload_n hx hb dX6_isBarrel_18 rfl (lv_at hl 2 rfl) ?_
        refine lv_if_le (tgt := 45) hx hb dX6_isBarrel_19 (by decide) (fun c19 => ?_) (fun c19 => ?_)
        · refine lv_iload_n hx hb dX6_isBarrel_45 rfl (lv_at hl 1 rfl) ?_
          exact o_zretR hx hb hr hlocks dX6_isBarrel_46 (by exact bI_01 _) (by first | (rw [oBar_e1 hq c19]) | (rw [c23]; exact congrArg bI (oBar_e2 hq c19 c23)))
        · refine lv_iload_n hx hb dX6_isBarrel_22 rfl (lv_at hl 1 rfl) ?_
          refine lv_if_eq (tgt := 45) hx hb dX6_isBarrel_23 (by decide) (fun c23 => ?_) (fun c23 => ?_)
          · have c23 := bI_eq.mp c23
            refine lv_iload_n hx hb dX6_isBarrel_45 rfl (lv_at hl 1 rfl) ?_
            exact o_zretR hx hb hr hlocks dX6_isBarrel_46 (by exact bI_01 _) (by first | (rw [oBar_e1 hq c19]) | (rw [c23]; exact congrArg bI (oBar_e2 hq c19 c23)))
          · have c23 := bI_ne.mp c23
            refine lv_iload_n hx hb dX6_isBarrel_26 rfl (lv_at hl 2 rfl) ?_
            refine lv_bipush (v := 10) hx hb dX6_isBarrel_27 (by decide) ?_
            refine o_irem hx hb dX6_isBarrel_29 (by decide) ?_
            refine lv_iconst (v := 1) hx hb dX6_isBarrel_30 (by decide) ?_
            refine lv_bipush (v := 6) hx hb dX6_isBarrel_31 (by decide) ?_
            refine o_cSi [.int (o_rem (oBr x k) 10), .int 1, .int 6] [] ⟨hx, hb, hml, hown, hts⟩ (m_X6_isIn l G wd (o_rem (oBr x k) 10) 1 6) (va_cwS 3 hts gX6_isBarrel_X6_isIn rfl rfl rfl (by decide +kernel) ⟨Nat.le_of_ble_eq_true rfl, Nat.le_of_ble_eq_true rfl⟩) hK hN hP rfl hl.1 rfl (Nat.le_of_ble_eq_true rfl) dX6_isBarrel_33 ⟨Nat.zero_le _, Nat.zero_le _⟩ ?_
            refine lv_istore_n (lv' := [(1, .int (bI (oRg (o_rem (oBr x k) 10) 1 6))), (0, .int x), (2, .int (oBr x k))]) hx hb dX6_isBarrel_36 rfl hl (by decide) rfl (fun ls hl => ?_)
            refine lv_iload_n hx hb dX6_isBarrel_37 rfl (lv_at hl 2 rfl) ?_
            refine lv_bipush (v := 10) hx hb dX6_isBarrel_38 (by decide) ?_
            refine lv_idiv hx hb dX6_isBarrel_40 (by decide) ?_
            refine lv_istore_n (lv' := [(2, .int ((oBr x k) / 10)), (1, .int (bI (oRg (o_rem (oBr x k) 10) 1 6))), (0, .int x)]) hx hb dX6_isBarrel_41 rfl hl (by decide) rfl (fun ls hl => ?_)
            refine lv_goto (tgt := 18) hx hb dX6_isBarrel_42 (by decide) ?_
            exact ih18 (k + 1) (by omega) _ (rfl) _ (rfl) (oBg_s hq c19 c23) ls (lv_sub hl [2, 1, 0] rfl)
    exact lp18 (40) 0 (by omega) _ (by first | exact oBi_a c1 | exact oBi_b c7 | exact oBi_c c1 c7) _ (rfl) (fun j hj => absurd hj (Nat.not_lt_zero j)) ls (lv_sub hl [2, 1, 0] rfl)
  · refine lv_iload_n hx hb dX6_isBarrel_4 rfl (lv_at hl 0 rfl) ?_
    refine lv_ldc hx hb hown (hts (.constant RX6 98 (100000000)) (List.mem_of_getElem? (i := 1) rfl)) dX6_isBarrel_5 ?_
    refine lv_icmp_ge (tgt := 14) hx hb dX6_isBarrel_7 (by decide) (fun c7 => ?_) (fun c7 => ?_)
    · refine lv_iconst (v := 0) hx hb dX6_isBarrel_14 (by decide) ?_
      refine lv_istore_n (lv' := [(1, .int 0), (0, .int x)]) hx hb dX6_isBarrel_15 rfl hl (by decide) rfl (fun ls hl => ?_)
      refine lv_iload_n hx hb dX6_isBarrel_16 rfl (lv_at hl 1 rfl) ?_
      refine lv_istore_n (lv' := [(2, .int x), (1, .int 0), (0, .int x)]) hx hb dX6_isBarrel_17 rfl hl (by decide) rfl (fun ls hl => ?_)
      have lp18 : ∀ (d18 k : Nat), k + d18 = 40 → ∀ x18_1 : Int32, x18_1 = (bI (oBi x k)) → ∀ x18_2 : Int32, x18_2 = (oBr x k) → (oBg x k) → ∀ ls : Array Slot, lv_has ls 3 [(0, .int x), (1, .int x18_1), (2, .int x18_2)] → W p l e ({ frames := 1, cells := 0, slots := 0, locals := 22 } : Room) s m ([.int x] : List Value).toArray below meth c s.heap [] 0 0 (MQ below (oR (some (.int (bI (oBar x))))) ([.int x] : List Value).toArray s 0 0 (fun _ => False)) (F0 m 18 ls []) := by
        intro d18
        induction d18 with
        | zero =>
          intro k hk18 x18_1 e18_1 x18_2 e18_2 hq ls hl
          subst e18_1
          subst e18_2
          have hk18 : k = 40 := by omega
          subst hk18
          have hF : False := oBg_end hq
          refine lv_iload_n hx hb dX6_isBarrel_18 rfl (lv_at hl 2 rfl) ?_
          refine lv_if_le (tgt := 45) hx hb dX6_isBarrel_19 (by decide) (fun c19 => ?_) (fun c19 => ?_)
          · exact hF.elim
          · exact hF.elim
        | succ d18 ih18 =>
          intro k hk18 x18_1 e18_1 x18_2 e18_2 hq ls hl
          subst e18_1
          subst e18_2
          have hj18 : k < 40 := by omega
          refine lv_iload_n hx hb dX6_isBarrel_18 rfl (lv_at hl 2 rfl) ?_
          refine lv_if_le (tgt := 45) hx hb dX6_isBarrel_19 (by decide) (fun c19 => ?_) (fun c19 => ?_)
          · refine lv_iload_n hx hb dX6_isBarrel_45 rfl (lv_at hl 1 rfl) ?_
            exact o_zretR hx hb hr hlocks dX6_isBarrel_46 (by exact bI_01 _) (by first | (rw [oBar_e1 hq c19]) | (rw [c23]; exact congrArg bI (oBar_e2 hq c19 c23)))
          · refine lv_iload_n hx hb dX6_isBarrel_22 rfl (lv_at hl 1 rfl) ?_
            refine lv_if_eq (tgt := 45) hx hb dX6_isBarrel_23 (by decide) (fun c23 => ?_) (fun c23 => ?_)
            · have c23 := bI_eq.mp c23
              refine lv_iload_n hx hb dX6_isBarrel_45 rfl (lv_at hl 1 rfl) ?_
              exact o_zretR hx hb hr hlocks dX6_isBarrel_46 (by exact bI_01 _) (by first | (rw [oBar_e1 hq c19]) | (rw [c23]; exact congrArg bI (oBar_e2 hq c19 c23)))
            · have c23 := bI_ne.mp c23
              refine lv_iload_n hx hb dX6_isBarrel_26 rfl (lv_at hl 2 rfl) ?_
              refine lv_bipush (v := 10) hx hb dX6_isBarrel_27 (by decide) ?_
              refine o_irem hx hb dX6_isBarrel_29 (by decide) ?_
              refine lv_iconst (v := 1) hx hb dX6_isBarrel_30 (by decide) ?_
              refine lv_bipush (v := 6) hx hb dX6_isBarrel_31 (by decide) ?_
              refine o_cSi [.int (o_rem (oBr x k) 10), .int 1, .int 6] [] ⟨hx, hb, hml, hown, hts⟩ (m_X6_isIn l G wd (o_rem (oBr x k) 10) 1 6) (va_cwS 3 hts gX6_isBarrel_X6_isIn rfl rfl rfl (by decide +kernel) ⟨Nat.le_of_ble_eq_true rfl, Nat.le_of_ble_eq_true rfl⟩) hK hN hP rfl hl.1 rfl (Nat.le_of_ble_eq_true rfl) dX6_isBarrel_33 ⟨Nat.zero_le _, Nat.zero_le _⟩ ?_
              refine lv_istore_n (lv' := [(1, .int (bI (oRg (o_rem (oBr x k) 10) 1 6))), (0, .int x), (2, .int (oBr x k))]) hx hb dX6_isBarrel_36 rfl hl (by decide) rfl (fun ls hl => ?_)
              refine lv_iload_n hx hb dX6_isBarrel_37 rfl (lv_at hl 2 rfl) ?_
              refine lv_bipush (v := 10) hx hb dX6_isBarrel_38 (by decide) ?_
              refine lv_idiv hx hb dX6_isBarrel_40 (by decide) ?_
              refine lv_istore_n (lv' := [(2, .int ((oBr x k) / 10)), (1, .int (bI (oRg (o_rem (oBr x k) 10) 1 6))), (0, .int x)]) hx hb dX6_isBarrel_41 rfl hl (by decide) rfl (fun ls hl => ?_)
              refine lv_goto (tgt := 18) hx hb dX6_isBarrel_42 (by decide) ?_
              exact ih18 (k + 1) (by omega) _ (rfl) _ (rfl) (oBg_s hq c19 c23) ls (lv_sub hl [2, 1, 0] rfl)
      exact lp18 (40) 0 (by omega) _ (by first | exact oBi_a c1 | exact oBi_b c7 | exact oBi_c c1 c7) _ (rfl) (fun j hj => absurd hj (Nat.not_lt_zero j)) ls (lv_sub hl [2, 1, 0] rfl)
    · refine lv_iconst (v := 1) hx hb dX6_isBarrel_10 (by decide) ?_
      refine lv_goto (tgt := 15) hx hb dX6_isBarrel_11 (by decide) ?_
      refine lv_istore_n (lv' := [(1, .int 1), (0, .int x)]) hx hb dX6_isBarrel_15 rfl hl (by decide) rfl (fun ls hl => ?_)
      refine lv_iload_n hx hb dX6_isBarrel_16 rfl (lv_at hl 1 rfl) ?_
      refine lv_istore_n (lv' := [(2, .int x), (1, .int 1), (0, .int x)]) hx hb dX6_isBarrel_17 rfl hl (by decide) rfl (fun ls hl => ?_)
      have lp18 : ∀ (d18 k : Nat), k + d18 = 40 → ∀ x18_1 : Int32, x18_1 = (bI (oBi x k)) → ∀ x18_2 : Int32, x18_2 = (oBr x k) → (oBg x k) → ∀ ls : Array Slot, lv_has ls 3 [(0, .int x), (1, .int x18_1), (2, .int x18_2)] → W p l e ({ frames := 1, cells := 0, slots := 0, locals := 22 } : Room) s m ([.int x] : List Value).toArray below meth c s.heap [] 0 0 (MQ below (oR (some (.int (bI (oBar x))))) ([.int x] : List Value).toArray s 0 0 (fun _ => False)) (F0 m 18 ls []) := by
        intro d18
        induction d18 with
        | zero =>
          intro k hk18 x18_1 e18_1 x18_2 e18_2 hq ls hl
          subst e18_1
          subst e18_2
          have hk18 : k = 40 := by omega
          subst hk18
          have hF : False := oBg_end hq
          refine lv_iload_n hx hb dX6_isBarrel_18 rfl (lv_at hl 2 rfl) ?_
          refine lv_if_le (tgt := 45) hx hb dX6_isBarrel_19 (by decide) (fun c19 => ?_) (fun c19 => ?_)
          · exact hF.elim
          · exact hF.elim
        | succ d18 ih18 =>
          intro k hk18 x18_1 e18_1 x18_2 e18_2 hq ls hl
          subst e18_1
          subst e18_2
          have hj18 : k < 40 := by omega
          refine lv_iload_n hx hb dX6_isBarrel_18 rfl (lv_at hl 2 rfl) ?_
          refine lv_if_le (tgt := 45) hx hb dX6_isBarrel_19 (by decide) (fun c19 => ?_) (fun c19 => ?_)
          · refine lv_iload_n hx hb dX6_isBarrel_45 rfl (lv_at hl 1 rfl) ?_
            exact o_zretR hx hb hr hlocks dX6_isBarrel_46 (by exact bI_01 _) (by first | (rw [oBar_e1 hq c19]) | (rw [c23]; exact congrArg bI (oBar_e2 hq c19 c23)))
          · refine lv_iload_n hx hb dX6_isBarrel_22 rfl (lv_at hl 1 rfl) ?_
            refine lv_if_eq (tgt := 45) hx hb dX6_isBarrel_23 (by decide) (fun c23 => ?_) (fun c23 => ?_)
            · have c23 := bI_eq.mp c23
              refine lv_iload_n hx hb dX6_isBarrel_45 rfl (lv_at hl 1 rfl) ?_
              exact o_zretR hx hb hr hlocks dX6_isBarrel_46 (by exact bI_01 _) (by first | (rw [oBar_e1 hq c19]) | (rw [c23]; exact congrArg bI (oBar_e2 hq c19 c23)))
            · have c23 := bI_ne.mp c23
              refine lv_iload_n hx hb dX6_isBarrel_26 rfl (lv_at hl 2 rfl) ?_
              refine lv_bipush (v := 10) hx hb dX6_isBarrel_27 (by decide) ?_
              refine o_irem hx hb dX6_isBarrel_29 (by decide) ?_
              refine lv_iconst (v := 1) hx hb dX6_isBarrel_30 (by decide) ?_
              refine lv_bipush (v := 6) hx hb dX6_isBarrel_31 (by decide) ?_
              refine o_cSi [.int (o_rem (oBr x k) 10), .int 1, .int 6] [] ⟨hx, hb, hml, hown, hts⟩ (m_X6_isIn l G wd (o_rem (oBr x k) 10) 1 6) (va_cwS 3 hts gX6_isBarrel_X6_isIn rfl rfl rfl (by decide +kernel) ⟨Nat.le_of_ble_eq_true rfl, Nat.le_of_ble_eq_true rfl⟩) hK hN hP rfl hl.1 rfl (Nat.le_of_ble_eq_true rfl) dX6_isBarrel_33 ⟨Nat.zero_le _, Nat.zero_le _⟩ ?_
              refine lv_istore_n (lv' := [(1, .int (bI (oRg (o_rem (oBr x k) 10) 1 6))), (0, .int x), (2, .int (oBr x k))]) hx hb dX6_isBarrel_36 rfl hl (by decide) rfl (fun ls hl => ?_)
              refine lv_iload_n hx hb dX6_isBarrel_37 rfl (lv_at hl 2 rfl) ?_
              refine lv_bipush (v := 10) hx hb dX6_isBarrel_38 (by decide) ?_
              refine lv_idiv hx hb dX6_isBarrel_40 (by decide) ?_
              refine lv_istore_n (lv' := [(2, .int ((oBr x k) / 10)), (1, .int (bI (oRg (o_rem (oBr x k) 10) 1 6))), (0, .int x)]) hx hb dX6_isBarrel_41 rfl hl (by decide) rfl (fun ls hl => ?_)
              refine lv_goto (tgt := 18) hx hb dX6_isBarrel_42 (by decide) ?_
              exact ih18 (k + 1) (by omega) _ (rfl) _ (rfl) (oBg_s hq c19 c23) ls (lv_sub hl [2, 1, 0] rfl)
      exact lp18 (40) 0 (by omega) _ (by first | exact oBi_a c1 | exact oBi_b c7 | exact oBi_c c1 c7) _ (rfl) (fun j hj => absurd hj (Nat.not_lt_zero j)) ls (lv_sub hl [2, 1, 0] rfl)
set_option maxHeartbeats 4000000 in
set_option maxRecDepth 100000 in
theorem m_X6_setBarrel (l : Launch) (G : oG) (hI : wl_I G.2.1 39) (α β γ : oT) (nS : Nat) (nO : Nat) (nH : Nat) (hz : qOK α nS nO nH) (x : Int32) (y : Int32) : Met l yX6_setBarrel wsX6_setBarrel ({ frames := 2, cells := 0, slots := 0, locals := 44 } : Room) (va_Pc [.ref (G.2.1 0), .int x, .int y] (PW G (mw G (z3 α β γ)))) (oQ (some (.int (if cBar nO x y = 0 then α 11 0 (oN x) else 0))) (fun H9 => va_P G.1 vwCl (mw G (z3 (if cBar nO x y = 0 then mBar α (oN x) y else α) β (mT γ (cBar nO x y)))) H9) (mA G)) 0 0 (mA G) := by
  refine o_body (cc := cX6_setBarrel) (by decide +kernel) rfl (Nat.le_of_ble_eq_true rfl) ?_
  intro p e s m below meth c ls hx hb hml hr hlocks hown hts hP hK hN hl
  have hown : s.vm.findClass RX6 = some m.cls := hown
  have hl : lv_has ls 5 [(0, .ref (G.2.1 0)), (1, .int x), (2, .int y)] := hl
  have hS : va_S (mA G) s.heap s.heap [] := va_S.rf
  obtain ⟨hz1, hz2, hz3, hz4, hz5, hz6, hz7, hz8⟩ := id hz
  refine lv_aload_n hx hb dX6_setBarrel_0 rfl (lv_at hl 0 rfl) ?_
  refine lv_iconst (v := 0) hx hb dX6_setBarrel_1 (by decide) ?_
  refine va_put (D := G.1) (ci := 8) (v := .int 0) (ty := .int) (C := RX6) (T := TX6) (N := 6) hx hb hts (fun w9 h9 => List.mem_cons_of_mem _ (List.mem_append_left _ (List.mem_append_right _ (h9)))) tyX6 tyX6_ok nmX6 hown hK hP (mw_D G _ hI) hS (0) (mw_M G (z3 α β γ)) rfl 0 (by decide) (hts (.fieldLink RX6 28 "OrganCensusModel" "thrown" "I") (List.mem_of_getElem? (i := 1) rfl)) (fun _ h9 => h9) rfl (by decide +kernel) rfl rfl (Nat.le_of_ble_eq_true rfl) dX6_setBarrel_2 (fun H locs hP hD hS => ?_)
  have hP : va_P G.1 vwCl (mw G (z3 α β (su γ 41 0 0 0))) H := by rw [← (mw_zP (a := α) (b := β) (c := γ) (τ' := su γ 41 0 0 0) (mw_uM0 G (z3 α β γ) 0))]; exact hP
  clear hD
  refine lv_aload_n hx hb dX6_setBarrel_5 rfl (lv_at hl 0 rfl) ?_
  refine lv_iload_n hx hb dX6_setBarrel_6 rfl (lv_at hl 1 rfl) ?_
  refine o_cVi (q0 := 0) (ci := 8) [.int x] [] ⟨hx, hb, hml, hown, hts⟩ (m_X6_isOrgan l G α β (su γ 41 0 0 0) nS nO nH hz x) (cwV 1 hts gX6_setBarrel_X6_isOrgan rfl rfl rfl (by decide +kernel) ⟨Nat.le_of_ble_eq_true rfl, Nat.le_of_ble_eq_true rfl⟩) hK hN hP rfl rfl (mw_M G (z3 α β (su γ 41 0 0 0))) rfl hl.1 rfl (Nat.le_of_ble_eq_true rfl) dX6_setBarrel_7 ⟨Nat.zero_le _, Nat.zero_le _⟩ ?_
  refine lv_if_ne (tgt := 19) hx hb dX6_setBarrel_10 (by decide) (fun c10 => ?_) (fun c10 => ?_)
  · have c10 := bI_ne.mp c10
    have n10 := oIn_lt (by omega) c10
    refine lv_iload_n hx hb dX6_setBarrel_19 rfl (lv_at hl 2 rfl) ?_
    refine o_cSi [.int y] [] ⟨hx, hb, hml, hown, hts⟩ (m_X6_isBarrel l G (mw G (z3 α β (su γ 41 0 0 0))) y) (va_cwS 1 hts gX6_setBarrel_X6_isBarrel rfl rfl rfl (by decide +kernel) ⟨Nat.le_of_ble_eq_true rfl, Nat.le_of_ble_eq_true rfl⟩) hK hN hP rfl hl.1 rfl (Nat.le_of_ble_eq_true rfl) dX6_setBarrel_20 ⟨Nat.zero_le _, Nat.zero_le _⟩ ?_
    refine lv_if_ne (tgt := 32) hx hb dX6_setBarrel_23 (by decide) (fun c23 => ?_) (fun c23 => ?_)
    · have c23 := bI_ne.mp c23
      refine lv_aload_n hx hb dX6_setBarrel_32 rfl (lv_at hl 0 rfl) ?_
      refine va_get (D := G.1) (ci := 8) (v := .ref (ms G 0 0)) (C := RX6) (T := TX6) (N := 6) hx hb hts (fun w9 h9 => List.mem_cons_of_mem _ (List.mem_append_left _ (List.mem_append_right _ (h9)))) hown hK hP (0) (mw_M G (z3 α β (su γ 41 0 0 0))) rfl 4 (by decide) (hts (.fieldLink RX6 21 "OrganCensusModel" "s" "LOrganCensusModel$State;") (List.mem_of_getElem? (i := 2) rfl)) (fun _ h9 => h9) rfl dX6_setBarrel_33 ?_
      refine va_getN (D := G.1) (ci := 7) (v := .ref (ms G 0 11)) (C := RX5) (T := TX5) (N := 21) hx hb hts (fun w9 h9 => List.mem_cons_of_mem _ (List.mem_append_right _ (h9))) hown hK hP (3 + 18 * 0 + (0)) (mv_S G (z3 α β (su γ 41 0 0 0)) (show 0 < 2 by decide)) rfl 13 (by decide) (va_Nw.use rfl (hN.1 (RX6, 95, RX5, "barrel", "[I", RX6) (List.mem_of_getElem? (i := 11) rfl))) (fun _ h9 => h9) rfl dX6_setBarrel_36 ?_
      refine lv_iload_n hx hb dX6_setBarrel_39 rfl (lv_at hl 1 rfl) ?_
      refine o_iald (k := oN x) hx hb hK hP (3 + 18 * 0 + (11)) 0 (mv_A11 G (z3 α β (su γ 41 0 0 0)) (show 0 < 2 by decide)) rfl (oIn_x c10) (by omega) (by decide) dX6_setBarrel_40 ?_
      refine lv_istore_n (lv' := [(3, .int (α 11 0 (oN x))), (0, .ref (G.2.1 0)), (1, .int x), (2, .int y)]) hx hb dX6_setBarrel_41 rfl hl (by decide) rfl (fun ls hl => ?_)
      refine lv_aload_n hx hb dX6_setBarrel_42 rfl (lv_at hl 1 rfl) ?_
      refine va_get (D := G.1) (ci := 8) (v := .ref (ms G 0 0)) (C := RX6) (T := TX6) (N := 6) hx hb hts (fun w9 h9 => List.mem_cons_of_mem _ (List.mem_append_left _ (List.mem_append_right _ (h9)))) hown hK hP (0) (mw_M G (z3 α β (su γ 41 0 0 0))) rfl 4 (by decide) (hts (.fieldLink RX6 21 "OrganCensusModel" "s" "LOrganCensusModel$State;") (List.mem_of_getElem? (i := 2) rfl)) (fun _ h9 => h9) rfl dX6_setBarrel_43 ?_
      refine va_getN (D := G.1) (ci := 7) (v := .ref (ms G 0 11)) (C := RX5) (T := TX5) (N := 21) hx hb hts (fun w9 h9 => List.mem_cons_of_mem _ (List.mem_append_right _ (h9))) hown hK hP (3 + 18 * 0 + (0)) (mv_S G (z3 α β (su γ 41 0 0 0)) (show 0 < 2 by decide)) rfl 13 (by decide) (va_Nw.use rfl (hN.1 (RX6, 95, RX5, "barrel", "[I", RX6) (List.mem_of_getElem? (i := 11) rfl))) (fun _ h9 => h9) rfl dX6_setBarrel_46 ?_
      refine lv_iload_n hx hb dX6_setBarrel_49 rfl (lv_at hl 2 rfl) ?_
      refine lv_iload_n hx hb dX6_setBarrel_50 rfl (lv_at hl 3 rfl) ?_
      refine o_iast (k := oN x) hx hb hK hP (mw_D G _ hI) hS (3 + 18 * 0 + (11)) 0 (mv_A11 G (z3 α β (su γ 41 0 0 0)) (show 0 < 2 by decide)) rfl (oIn_x c10) (by omega) (by decide) dX6_setBarrel_51 (fun H locs hP hD hS => ?_)
      have hP : va_P G.1 vwCl (mw G (z3 (su α 11 0 (oN x) y) β (su γ 41 0 0 0))) H := by rw [← (mu_z0 (a := α) (b := β) (c := (su γ 41 0 0 0)) (τ' := su α 11 0 (oN x) y) (mvu_A11 G (z3 α β (su γ 41 0 0 0)) (show 0 < 2 by decide) (oN x) y))]; exact hP
      clear hD
      refine lv_aload_n hx hb dX6_setBarrel_52 rfl (lv_at hl 1 rfl) ?_
      refine va_get (D := G.1) (ci := 8) (v := .ref (ms G 0 0)) (C := RX6) (T := TX6) (N := 6) hx hb hts (fun w9 h9 => List.mem_cons_of_mem _ (List.mem_append_left _ (List.mem_append_right _ (h9)))) hown hK hP (0) (mw_M G (z3 (su α 11 0 (oN x) y) β (su γ 41 0 0 0))) rfl 4 (by decide) (hts (.fieldLink RX6 21 "OrganCensusModel" "s" "LOrganCensusModel$State;") (List.mem_of_getElem? (i := 2) rfl)) (fun _ h9 => h9) rfl dX6_setBarrel_53 ?_
      refine va_getN (D := G.1) (ci := 7) (v := .ref (ms G 0 12)) (C := RX5) (T := TX5) (N := 21) hx hb hts (fun w9 h9 => List.mem_cons_of_mem _ (List.mem_append_right _ (h9))) hown hK hP (3 + 18 * 0 + (0)) (mv_S G (z3 (su α 11 0 (oN x) y) β (su γ 41 0 0 0)) (show 0 < 2 by decide)) rfl 14 (by decide) (va_Nw.use rfl (hN.1 (RX6, 105, RX5, "place", "[I", RX6) (List.mem_of_getElem? (i := 12) rfl))) (fun _ h9 => h9) rfl dX6_setBarrel_56 ?_
      refine lv_iload_n hx hb dX6_setBarrel_59 rfl (lv_at hl 2 rfl) ?_
      refine lv_iconst (v := 0) hx hb dX6_setBarrel_60 (by decide) ?_
      refine o_iast (k := oN x) hx hb hK hP (mw_D G _ hI) hS (3 + 18 * 0 + (12)) 0 (mv_A12 G (z3 (su α 11 0 (oN x) y) β (su γ 41 0 0 0)) (show 0 < 2 by decide)) rfl (oIn_x c10) (by omega) (by decide) dX6_setBarrel_61 (fun H locs hP hD hS => ?_)
      have hP : va_P G.1 vwCl (mw G (z3 (su (su α 11 0 (oN x) y) 12 0 (oN x) 0) β (su γ 41 0 0 0))) H := by rw [← (mu_z0 (a := (su α 11 0 (oN x) y)) (b := β) (c := (su γ 41 0 0 0)) (τ' := su (su α 11 0 (oN x) y) 12 0 (oN x) 0) (mvu_A12 G (z3 (su α 11 0 (oN x) y) β (su γ 41 0 0 0)) (show 0 < 2 by decide) (oN x) 0))]; exact hP
      clear hD
      refine lv_iconst (v := 0) hx hb dX6_setBarrel_62 (by decide) ?_
      refine lv_istore (lv' := [(4, .int 0), (3, .int (α 11 0 (oN x))), (0, .ref (G.2.1 0)), (1, .int x), (2, .int y)]) hx hb dX6_setBarrel_63 hl (by decide) rfl (fun ls hl => ?_)
      have lp65 : ∀ (d65 k : Nat), k + d65 = 6 → ∀ x65_4 : Int32, x65_4 = (nI k) → ∀ (τ65 : oZ), τ65 = (z3 (qW0 (su (su α 11 0 (oN x) y) 12 0 (oN x) 0) (oN x) k) β (su γ 41 0 0 0)) → ∀ (H : Heap) (locs : List Loc), va_P G.1 vwCl (mw G τ65) H → va_S (mA G) s.heap H locs → ∀ ls : Array Slot, lv_has ls 5 [(0, .ref (G.2.1 0)), (1, .int x), (2, .int y), (3, .int (α 11 0 (oN x))), (4, .int x65_4)] → W p l e ({ frames := 2, cells := 0, slots := 0, locals := 44 } : Room) s m ([.ref (G.2.1 0), .int x, .int y] : List Value).toArray below meth c H locs 0 0 (MQ below (oQ (some (.int (if cBar nO x y = 0 then α 11 0 (oN x) else 0))) (fun H9 => va_P G.1 vwCl (mw G (z3 (if cBar nO x y = 0 then mBar α (oN x) y else α) β (mT γ (cBar nO x y)))) H9) (mA G)) ([.ref (G.2.1 0), .int x, .int y] : List Value).toArray s 0 0 (mA G)) (F0 m 65 ls []) := by
        intro d65
        induction d65 with
        | zero =>
          intro k hk65 x65_4 e65_4 τ65 eτ65 H locs hP hS ls hl
          subst e65_4
          subst eτ65
          have hk65 : k = 6 := by omega
          refine lv_iload hx hb dX6_setBarrel_65 (lv_at hl 4 rfl) ?_
          refine lv_bipush (v := 6) hx hb dX6_setBarrel_67 (by decide) ?_
          refine lv_icmp_ge (tgt := 94) hx hb dX6_setBarrel_69 (by decide) (fun c69 => ?_) (fun c69 => ?_)
          · have n69 := (o_nle (a := 6) (b := k) (by decide) rfl (by omega) (by omega)).mp c69
            refine lv_iload_n hx hb dX6_setBarrel_94 rfl (lv_at hl 3 rfl) ?_
            exact o_iretM hx hb hr hlocks hS dX6_setBarrel_95 (by first | (subst hk65; have hP9 := hP; simp (decide := true) only [cBar, mT, c10, c23, c69, n69, Bool.true_and, Bool.and_true, Bool.false_and, Bool.and_false, Bool.false_eq_true, if_true, if_false, reduceIte, not_true_eq_false, not_false_eq_true, and_true, and_false, true_and, false_and, Nat.reduceEqDiff, reduceCtorEq]; exact hP9) | (have hP9 := hP; simp (decide := true) only [cBar, mT, c10, c23, c69, n69, Bool.true_and, Bool.and_true, Bool.false_and, Bool.and_false, Bool.false_eq_true, if_true, if_false, reduceIte, not_true_eq_false, not_false_eq_true, and_true, and_false, true_and, false_and, Nat.reduceEqDiff, reduceCtorEq]; rw [su_su] at hP9; exact hP9)) (by simp (decide := true) only [cBar, mT, c10, c23, c69, n69, Bool.true_and, Bool.and_true, Bool.false_and, Bool.and_false, Bool.false_eq_true, if_true, if_false, reduceIte, not_true_eq_false, not_false_eq_true, and_true, and_false, true_and, false_and, Nat.reduceEqDiff, reduceCtorEq]; try rfl)
          · have n69 := (mt (o_nle (a := 6) (b := k) (by decide) rfl (by omega) (by omega)).mpr) c69; omega
        | succ d65 ih65 =>
          intro k hk65 x65_4 e65_4 τ65 eτ65 H locs hP hS ls hl
          subst e65_4
          subst eτ65
          have hj65 : k < 6 := by omega
          refine lv_iload hx hb dX6_setBarrel_65 (lv_at hl 4 rfl) ?_
          refine lv_bipush (v := 6) hx hb dX6_setBarrel_67 (by decide) ?_
          refine lv_icmp_ge (tgt := 94) hx hb dX6_setBarrel_69 (by decide) (fun c69 => ?_) (fun c69 => ?_)
          · have n69 := (o_nle (a := 6) (b := k) (by decide) rfl (by omega) (by omega)).mp c69; omega
          · have n69 := (mt (o_nle (a := 6) (b := k) (by decide) rfl (by omega) (by omega)).mpr) c69
            refine lv_aload_n hx hb dX6_setBarrel_72 rfl (lv_at hl 0 rfl) ?_
            refine va_get (D := G.1) (ci := 8) (v := .ref (ms G 0 0)) (C := RX6) (T := TX6) (N := 6) hx hb hts (fun w9 h9 => List.mem_cons_of_mem _ (List.mem_append_left _ (List.mem_append_right _ (h9)))) hown hK hP (0) (mw_M G (z3 (qW0 (su (su α 11 0 (oN x) y) 12 0 (oN x) 0) (oN x) k) β (su γ 41 0 0 0))) rfl 4 (by decide) (hts (.fieldLink RX6 21 "OrganCensusModel" "s" "LOrganCensusModel$State;") (List.mem_of_getElem? (i := 2) rfl)) (fun _ h9 => h9) rfl dX6_setBarrel_73 ?_
            refine va_getN (D := G.1) (ci := 7) (v := .ref (ms G 0 13)) (C := RX5) (T := TX5) (N := 21) hx hb hts (fun w9 h9 => List.mem_cons_of_mem _ (List.mem_append_right _ (h9))) hown hK hP (3 + 18 * 0 + (0)) (mv_S G (z3 (qW0 (su (su α 11 0 (oN x) y) 12 0 (oN x) 0) (oN x) k) β (su γ 41 0 0 0)) (show 0 < 2 by decide)) rfl 15 (by decide) (va_Nw.use rfl (hN.1 (RX6, 108, RX5, "wear", "[I", RX6) (List.mem_of_getElem? (i := 13) rfl))) (fun _ h9 => h9) rfl dX6_setBarrel_76 ?_
            refine lv_bipush (v := 6) hx hb dX6_setBarrel_79 (by decide) ?_
            refine lv_iload_n hx hb dX6_setBarrel_81 rfl (lv_at hl 1 rfl) ?_
            refine lv_imul hx hb dX6_setBarrel_82 ?_
            refine lv_iload hx hb dX6_setBarrel_83 (lv_at hl 4 rfl) ?_
            refine lv_iadd hx hb dX6_setBarrel_85 ?_
            refine lv_iconst (v := 0) hx hb dX6_setBarrel_86 (by decide) ?_
            refine o_iast (k := (6 * (oN x)) + k) hx hb hK hP (mw_D G _ hI) hS (3 + 18 * 0 + (13)) 0 (mv_A13 G (z3 (qW0 (su (su α 11 0 (oN x) y) 12 0 (oN x) 0) (oN x) k) β (su γ 41 0 0 0)) (show 0 < 2 by decide)) rfl (o_nadd (o_nmul (by decide) (oIn_x c10)) rfl) (by omega) (by decide) dX6_setBarrel_87 (fun H locs hP hD hS => ?_)
            have hP : va_P G.1 vwCl (mw G (z3 (su (qW0 (su (su α 11 0 (oN x) y) 12 0 (oN x) 0) (oN x) k) 13 0 ((6 * (oN x)) + k) 0) β (su γ 41 0 0 0))) H := by rw [← (mu_z0 (a := (qW0 (su (su α 11 0 (oN x) y) 12 0 (oN x) 0) (oN x) k)) (b := β) (c := (su γ 41 0 0 0)) (τ' := su (qW0 (su (su α 11 0 (oN x) y) 12 0 (oN x) 0) (oN x) k) 13 0 ((6 * (oN x)) + k) 0) (mvu_A13 G (z3 (qW0 (su (su α 11 0 (oN x) y) 12 0 (oN x) 0) (oN x) k) β (su γ 41 0 0 0)) (show 0 < 2 by decide) ((6 * (oN x)) + k) 0))]; exact hP
            clear hD
            refine lv_iinc (v := nI (k + 1)) (lv' := [(4, .int (nI (k + 1))), (0, .ref (G.2.1 0)), (1, .int x), (2, .int y), (3, .int (α 11 0 (oN x)))]) hx hb dX6_setBarrel_88 hl (k := 4) rfl (nI_1 k) (by decide) rfl (fun ls hl => ?_)
            refine lv_goto (tgt := 65) hx hb dX6_setBarrel_91 (by decide) ?_
            exact ih65 (k + 1) (by omega) _ (rfl) _ (rfl) _ _ hP hS ls (lv_sub hl [1, 2, 3, 4, 0] rfl)
      exact lp65 (6) 0 (by omega) _ (rfl) _ (rfl) _ _ hP hS ls (lv_sub hl [2, 3, 4, 1, 0] rfl)
    · have c23 := bI_eq.mp c23
      refine lv_aload_n hx hb dX6_setBarrel_26 rfl (lv_at hl 0 rfl) ?_
      refine lv_iconst (v := 2) hx hb dX6_setBarrel_27 (by decide) ?_
      refine o_cVmi (q0 := 0) (ci := 8) [.int 2] [] ⟨hx, hb, hml, hown, hts⟩ (m_X6_no l G hI α β (su γ 41 0 0 0) 2) (cwV 1 hts gX6_setBarrel_X6_no rfl rfl rfl (by decide +kernel) ⟨Nat.le_of_ble_eq_true rfl, Nat.le_of_ble_eq_true rfl⟩) hK hN hP hS rfl rfl (mw_M G (z3 α β (su γ 41 0 0 0))) rfl hl.1 rfl (Nat.le_of_ble_eq_true rfl) dX6_setBarrel_28 ⟨Nat.zero_le _, Nat.zero_le _⟩ (fun H locs hP hS => ?_)
      exact o_iretM hx hb hr hlocks hS dX6_setBarrel_31 (by first | (subst hk65; have hP9 := hP; simp (decide := true) only [cBar, mT, c10, c23, Bool.true_and, Bool.and_true, Bool.false_and, Bool.and_false, Bool.false_eq_true, if_true, if_false, reduceIte, not_true_eq_false, not_false_eq_true, and_true, and_false, true_and, false_and, Nat.reduceEqDiff, reduceCtorEq]; exact hP9) | (have hP9 := hP; simp (decide := true) only [cBar, mT, c10, c23, Bool.true_and, Bool.and_true, Bool.false_and, Bool.and_false, Bool.false_eq_true, if_true, if_false, reduceIte, not_true_eq_false, not_false_eq_true, and_true, and_false, true_and, false_and, Nat.reduceEqDiff, reduceCtorEq]; rw [su_su] at hP9; exact hP9)) (by simp (decide := true) only [cBar, mT, c10, c23, Bool.true_and, Bool.and_true, Bool.false_and, Bool.and_false, Bool.false_eq_true, if_true, if_false, reduceIte, not_true_eq_false, not_false_eq_true, and_true, and_false, true_and, false_and, Nat.reduceEqDiff, reduceCtorEq]; try rfl)
  · have c10 := bI_eq.mp c10
    refine lv_aload_n hx hb dX6_setBarrel_13 rfl (lv_at hl 0 rfl) ?_
    refine lv_iconst (v := 1) hx hb dX6_setBarrel_14 (by decide) ?_
    refine o_cVmi (q0 := 0) (ci := 8) [.int 1] [] ⟨hx, hb, hml, hown, hts⟩ (m_X6_no l G hI α β (su γ 41 0 0 0) 1) (cwV 1 hts gX6_setBarrel_X6_no rfl rfl rfl (by decide +kernel) ⟨Nat.le_of_ble_eq_true rfl, Nat.le_of_ble_eq_true rfl⟩) hK hN hP hS rfl rfl (mw_M G (z3 α β (su γ 41 0 0 0))) rfl hl.1 rfl (Nat.le_of_ble_eq_true rfl) dX6_setBarrel_15 ⟨Nat.zero_le _, Nat.zero_le _⟩ (fun H locs hP hS => ?_)
    exact o_iretM hx hb hr hlocks hS dX6_setBarrel_18 (by first | (subst hk65; have hP9 := hP; simp (decide := true) only [cBar, mT, c10, Bool.true_and, Bool.and_true, Bool.false_and, Bool.and_false, Bool.false_eq_true, if_true, if_false, reduceIte, not_true_eq_false, not_false_eq_true, and_true, and_false, true_and, false_and, Nat.reduceEqDiff, reduceCtorEq]; exact hP9) | (have hP9 := hP; simp (decide := true) only [cBar, mT, c10, Bool.true_and, Bool.and_true, Bool.false_and, Bool.and_false, Bool.false_eq_true, if_true, if_false, reduceIte, not_true_eq_false, not_false_eq_true, and_true, and_false, true_and, false_and, Nat.reduceEqDiff, reduceCtorEq]; rw [su_su] at hP9; exact hP9)) (by simp (decide := true) only [cBar, mT, c10, Bool.true_and, Bool.and_true, Bool.false_and, Bool.and_false, Bool.false_eq_true, if_true, if_false, reduceIte, not_true_eq_false, not_false_eq_true, and_true, and_false, true_and, false_and, Nat.reduceEqDiff, reduceCtorEq]; try rfl)
set_option maxHeartbeats 4000000 in
set_option maxRecDepth 100000 in
theorem m_X6_send (l : Launch) (G : oG) (hI : wl_I G.2.1 39) (α β γ : oT) (nS : Nat) (nO : Nat) (nH : Nat) (hz : qOK α nS nO nH) (x : Int32) (y : Int32) (z : Int32) : Met l yX6_send wsX6_send ({ frames := 3, cells := 0, slots := 0, locals := 65 } : Room) (va_Pc [.ref (G.2.1 0), .int x, .int y, .int z] (PW G (mw G (z3 α β γ)))) (oQ (some (.int (if cSend nS nO (qNp α) (α 15 0 (6 * oN x + oN y)) x y z = 0 then qFar α (oN x) y z else 0))) (fun H9 => va_P G.1 vwCl (mw G (z3 (if cSend nS nO (qNp α) (α 15 0 (6 * oN x + oN y)) x y z = 0 then mSend α (oN x) y z else α) β (mT γ (cSend nS nO (qNp α) (α 15 0 (6 * oN x + oN y)) x y z)))) H9) (mA G)) 0 0 (mA G) := by
  refine o_body (cc := cX6_send) (by decide +kernel) rfl (Nat.le_of_ble_eq_true rfl) ?_
  intro p e s m below meth c ls hx hb hml hr hlocks hown hts hP hK hN hl
  have hown : s.vm.findClass RX6 = some m.cls := hown
  have hl : lv_has ls 5 [(0, .ref (G.2.1 0)), (1, .int x), (2, .int y), (3, .int z)] := hl
  have hS : va_S (mA G) s.heap s.heap [] := va_S.rf
  obtain ⟨hz1, hz2, hz3, hz4, hz5, hz6, hz7, hz8⟩ := id hz
  refine lv_aload_n hx hb dX6_send_0 rfl (lv_at hl 0 rfl) ?_
  refine lv_iconst (v := 0) hx hb dX6_send_1 (by decide) ?_
  refine va_put (D := G.1) (ci := 8) (v := .int 0) (ty := .int) (C := RX6) (T := TX6) (N := 6) hx hb hts (fun w9 h9 => List.mem_cons_of_mem _ (List.mem_append_left _ (List.mem_append_right _ (h9)))) tyX6 tyX6_ok nmX6 hown hK hP (mw_D G _ hI) hS (0) (mw_M G (z3 α β γ)) rfl 0 (by decide) (hts (.fieldLink RX6 28 "OrganCensusModel" "thrown" "I") (List.mem_of_getElem? (i := 1) rfl)) (fun _ h9 => h9) rfl (by decide +kernel) rfl rfl (Nat.le_of_ble_eq_true rfl) dX6_send_2 (fun H locs hP hD hS => ?_)
  have hP : va_P G.1 vwCl (mw G (z3 α β (su γ 41 0 0 0))) H := by rw [← (mw_zP (a := α) (b := β) (c := γ) (τ' := su γ 41 0 0 0) (mw_uM0 G (z3 α β γ) 0))]; exact hP
  clear hD
  refine lv_aload_n hx hb dX6_send_5 rfl (lv_at hl 0 rfl) ?_
  refine lv_iload_n hx hb dX6_send_6 rfl (lv_at hl 1 rfl) ?_
  refine o_cVi (q0 := 0) (ci := 8) [.int x] [] ⟨hx, hb, hml, hown, hts⟩ (m_X6_isOrgan l G α β (su γ 41 0 0 0) nS nO nH hz x) (cwV 1 hts gX6_send_X6_isOrgan rfl rfl rfl (by decide +kernel) ⟨Nat.le_of_ble_eq_true rfl, Nat.le_of_ble_eq_true rfl⟩) hK hN hP rfl rfl (mw_M G (z3 α β (su γ 41 0 0 0))) rfl hl.1 rfl (Nat.le_of_ble_eq_true rfl) dX6_send_7 ⟨Nat.zero_le _, Nat.zero_le _⟩ ?_
  refine lv_if_eq (tgt := 22) hx hb dX6_send_10 (by decide) (fun c10 => ?_) (fun c10 => ?_)
  · have c10 := bI_eq.mp c10
    refine lv_aload_n hx hb dX6_send_22 rfl (lv_at hl 0 rfl) ?_
    refine lv_iconst (v := 1) hx hb dX6_send_23 (by decide) ?_
    refine o_cVmi (q0 := 0) (ci := 8) [.int 1] [] ⟨hx, hb, hml, hown, hts⟩ (m_X6_no l G hI α β (su γ 41 0 0 0) 1) (cwV 1 hts gX6_send_X6_no rfl rfl rfl (by decide +kernel) ⟨Nat.le_of_ble_eq_true rfl, Nat.le_of_ble_eq_true rfl⟩) hK hN hP hS rfl rfl (mw_M G (z3 α β (su γ 41 0 0 0))) rfl hl.1 rfl (Nat.le_of_ble_eq_true rfl) dX6_send_24 ⟨Nat.zero_le _, Nat.zero_le _⟩ (fun H locs hP hS => ?_)
    exact o_iretM hx hb hr hlocks hS dX6_send_27 (by have hP9 := hP; simp (decide := true) only [cSend, mSend, qFar, mT, c10, Bool.true_and, Bool.and_true, Bool.false_and, Bool.and_false, Bool.false_eq_true, if_true, if_false, reduceIte, not_true_eq_false, not_false_eq_true, and_true, and_false, true_and, false_and, Nat.reduceEqDiff, reduceCtorEq]; first | exact hP9 | (rw [su_su] at hP9; exact hP9)) (by simp (decide := true) only [z3, cSend, qFar, su_s, su_k, c10, Bool.true_and, Bool.and_true, Bool.false_and, Bool.and_false, Bool.false_eq_true, if_true, if_false, reduceIte, not_true_eq_false, not_false_eq_true, and_true, and_false, true_and, false_and, Nat.reduceEqDiff, reduceCtorEq]; try rfl)
  · have c10 := bI_ne.mp c10
    have n10 := oIn_lt (by omega) c10
    refine lv_aload_n hx hb dX6_send_13 rfl (lv_at hl 0 rfl) ?_
    refine lv_iload_n hx hb dX6_send_14 rfl (lv_at hl 2 rfl) ?_
    refine lv_iload_n hx hb dX6_send_15 rfl (lv_at hl 3 rfl) ?_
    refine o_cVi (q0 := 0) (ci := 8) [.int y, .int z] [] ⟨hx, hb, hml, hown, hts⟩ (m_X6_isPitch l G α β (su γ 41 0 0 0) nS nO nH hz y z) (cwV 2 hts gX6_send_X6_isPitch rfl rfl rfl (by decide +kernel) ⟨Nat.le_of_ble_eq_true rfl, Nat.le_of_ble_eq_true rfl⟩) hK hN hP rfl rfl (mw_M G (z3 α β (su γ 41 0 0 0))) rfl hl.1 rfl (Nat.le_of_ble_eq_true rfl) dX6_send_16 ⟨Nat.zero_le _, Nat.zero_le _⟩ ?_
    refine lv_if_ne (tgt := 28) hx hb dX6_send_19 (by decide) (fun c19 => ?_) (fun c19 => ?_)
    · have c19 := bI_ne.mp c19
      have c191 := ((Bool.and_eq_true _ _).mp c19).1
      have c192 := ((Bool.and_eq_true _ _).mp c19).2
      have n191 := oIn_lt (by omega) c191
      have hp192 := (hz.2.2.2.2.2.2.1 (oN y) (by omega)).2
      have n192 := oIn_lt (by omega) c192
      refine lv_aload_n hx hb dX6_send_28 rfl (lv_at hl 0 rfl) ?_
      refine va_get (D := G.1) (ci := 8) (v := .ref (ms G 0 0)) (C := RX6) (T := TX6) (N := 6) hx hb hts (fun w9 h9 => List.mem_cons_of_mem _ (List.mem_append_left _ (List.mem_append_right _ (h9)))) hown hK hP (0) (mw_M G (z3 α β (su γ 41 0 0 0))) rfl 4 (by decide) (hts (.fieldLink RX6 21 "OrganCensusModel" "s" "LOrganCensusModel$State;") (List.mem_of_getElem? (i := 2) rfl)) (fun _ h9 => h9) rfl dX6_send_29 ?_
      refine va_getN (D := G.1) (ci := 7) (v := .ref (ms G 0 15)) (C := RX5) (T := TX5) (N := 21) hx hb hts (fun w9 h9 => List.mem_cons_of_mem _ (List.mem_append_right _ (h9))) hown hK hP (3 + 18 * 0 + (0)) (mv_S G (z3 α β (su γ 41 0 0 0)) (show 0 < 2 by decide)) rfl 17 (by decide) (va_Nw.use rfl (hN.1 (RX6, 111, RX5, "banished", "[I", RX6) (List.mem_of_getElem? (i := 14) rfl))) (fun _ h9 => h9) rfl dX6_send_32 ?_
      refine lv_bipush (v := 6) hx hb dX6_send_35 (by decide) ?_
      refine lv_iload_n hx hb dX6_send_37 rfl (lv_at hl 1 rfl) ?_
      refine lv_imul hx hb dX6_send_38 ?_
      refine lv_iload_n hx hb dX6_send_39 rfl (lv_at hl 2 rfl) ?_
      refine lv_iadd hx hb dX6_send_40 ?_
      refine o_iald (k := (6 * (oN x)) + (oN y)) hx hb hK hP (3 + 18 * 0 + (15)) 0 (mv_A15 G (z3 α β (su γ 41 0 0 0)) (show 0 < 2 by decide)) rfl (o_nadd (o_nmul (by decide) (oIn_x c10)) (oIn_x c191)) (by omega) (by decide) dX6_send_41 ?_
      refine lv_if_le (tgt := 51) hx hb dX6_send_42 (by decide) (fun c42 => ?_) (fun c42 => ?_)
      · have c42 : α 15 0 (6 * oN x + oN y) ≤ 0 := c42
        refine lv_iload_n hx hb dX6_send_51 rfl (lv_at hl 2 rfl) ?_
        refine lv_aload_n hx hb dX6_send_52 rfl (lv_at hl 0 rfl) ?_
        refine va_get (D := G.1) (ci := 8) (v := .ref (ms G 0 0)) (C := RX6) (T := TX6) (N := 6) hx hb hts (fun w9 h9 => List.mem_cons_of_mem _ (List.mem_append_left _ (List.mem_append_right _ (h9)))) hown hK hP (0) (mw_M G (z3 α β (su γ 41 0 0 0))) rfl 4 (by decide) (hts (.fieldLink RX6 21 "OrganCensusModel" "s" "LOrganCensusModel$State;") (List.mem_of_getElem? (i := 2) rfl)) (fun _ h9 => h9) rfl dX6_send_53 ?_
        refine va_getN (D := G.1) (ci := 7) (v := .ref (ms G 0 6)) (C := RX5) (T := TX5) (N := 21) hx hb hts (fun w9 h9 => List.mem_cons_of_mem _ (List.mem_append_right _ (h9))) hown hK hP (3 + 18 * 0 + (0)) (mv_S G (z3 α β (su γ 41 0 0 0)) (show 0 < 2 by decide)) rfl 8 (by decide) (va_Nw.use rfl (hN.1 (RX6, 86, RX5, "at", "[I", RX6) (List.mem_of_getElem? (i := 8) rfl))) (fun _ h9 => h9) rfl dX6_send_56 ?_
        refine lv_iload_n hx hb dX6_send_59 rfl (lv_at hl 1 rfl) ?_
        refine o_iald (k := oN x) hx hb hK hP (3 + 18 * 0 + (6)) 0 (mv_A6 G (z3 α β (su γ 41 0 0 0)) (show 0 < 2 by decide)) rfl (oIn_x c10) (by omega) (by decide) dX6_send_60 ?_
        refine lv_isub hx hb dX6_send_61 ?_
        refine va_mabs (rest := []) hx hb (hml.trans hl.1.symm) hown (hts (.methodLink RX6 114 Lib.Math.abs.name) (List.mem_of_getElem? (i := 3) rfl)) (hts (.static Lib.Math.abs.name) (List.mem_of_getElem? (i := 4) rfl)) (hts (.initialized "java/lang/Math") (List.mem_of_getElem? (i := 5) rfl)) (hts (.code Lib.Math.abs.name Lib.Math.abs.code 1 (some .int)) (List.mem_of_getElem? (i := 6) rfl)) (Nat.le_of_ble_eq_true rfl) (Nat.le_of_ble_eq_true rfl) (Nat.zero_le _) (Nat.zero_le _) dX6_send_62 ?_
        change W _ _ _ _ _ _ _ _ _ _ _ _ _ _ _ (F0 m 65 ls (.int (o_abs (y - (α 6 0 (oN x)))) :: _))
        refine lv_istore (lv' := [(4, .int (o_abs (y - (α 6 0 (oN x))))), (0, .ref (G.2.1 0)), (1, .int x), (2, .int y), (3, .int z)]) hx hb dX6_send_65 hl (by decide) rfl (fun ls hl => ?_)
        refine lv_aload_n hx hb dX6_send_67 rfl (lv_at hl 1 rfl) ?_
        refine va_get (D := G.1) (ci := 8) (v := .ref (ms G 0 0)) (C := RX6) (T := TX6) (N := 6) hx hb hts (fun w9 h9 => List.mem_cons_of_mem _ (List.mem_append_left _ (List.mem_append_right _ (h9)))) hown hK hP (0) (mw_M G (z3 α β (su γ 41 0 0 0))) rfl 4 (by decide) (hts (.fieldLink RX6 21 "OrganCensusModel" "s" "LOrganCensusModel$State;") (List.mem_of_getElem? (i := 2) rfl)) (fun _ h9 => h9) rfl dX6_send_68 ?_
        refine va_getN (D := G.1) (ci := 7) (v := .ref (ms G 0 8)) (C := RX5) (T := TX5) (N := 21) hx hb hts (fun w9 h9 => List.mem_cons_of_mem _ (List.mem_append_right _ (h9))) hown hK hP (3 + 18 * 0 + (0)) (mv_S G (z3 α β (su γ 41 0 0 0)) (show 0 < 2 by decide)) rfl 10 (by decide) (va_Nw.use rfl (hN.1 (RX6, 119, RX5, "left", "[I", RX6) (List.mem_of_getElem? (i := 15) rfl))) (fun _ h9 => h9) rfl dX6_send_71 ?_
        refine lv_iload_n hx hb dX6_send_74 rfl (lv_at hl 2 rfl) ?_
        refine lv_iload hx hb dX6_send_75 (lv_at hl 0 rfl) ?_
        refine lv_if_le (tgt := 87) hx hb dX6_send_77 (by decide) (fun c77 => ?_) (fun c77 => ?_)
        · refine lv_iload_n hx hb dX6_send_87 rfl (lv_at hl 4 rfl) ?_
          refine lv_aload_n hx hb dX6_send_88 rfl (lv_at hl 1 rfl) ?_
          refine va_get (D := G.1) (ci := 8) (v := .ref (ms G 0 0)) (C := RX6) (T := TX6) (N := 6) hx hb hts (fun w9 h9 => List.mem_cons_of_mem _ (List.mem_append_left _ (List.mem_append_right _ (h9)))) hown hK hP (0) (mw_M G (z3 α β (su γ 41 0 0 0))) rfl 4 (by decide) (hts (.fieldLink RX6 21 "OrganCensusModel" "s" "LOrganCensusModel$State;") (List.mem_of_getElem? (i := 2) rfl)) (fun _ h9 => h9) rfl dX6_send_89 ?_
          refine va_getN (D := G.1) (ci := 7) (v := .ref (ms G 0 7)) (C := RX5) (T := TX5) (N := 21) hx hb hts (fun w9 h9 => List.mem_cons_of_mem _ (List.mem_append_right _ (h9))) hown hK hP (3 + 18 * 0 + (0)) (mv_S G (z3 α β (su γ 41 0 0 0)) (show 0 < 2 by decide)) rfl 9 (by decide) (va_Nw.use rfl (hN.1 (RX6, 89, RX5, "pitch", "[I", RX6) (List.mem_of_getElem? (i := 9) rfl))) (fun _ h9 => h9) rfl dX6_send_92 ?_
          refine lv_iload_n hx hb dX6_send_95 rfl (lv_at hl 2 rfl) ?_
          refine o_iald (k := oN x) hx hb hK hP (3 + 18 * 0 + (7)) 0 (mv_A7 G (z3 α β (su γ 41 0 0 0)) (show 0 < 2 by decide)) rfl (oIn_x c10) (by omega) (by decide) dX6_send_96 ?_
          refine lv_isub hx hb dX6_send_97 ?_
          refine va_mabs (rest := [.int x, .ref (ms G 0 8)]) hx hb (hml.trans hl.1.symm) hown (hts (.methodLink RX6 114 Lib.Math.abs.name) (List.mem_of_getElem? (i := 3) rfl)) (hts (.static Lib.Math.abs.name) (List.mem_of_getElem? (i := 4) rfl)) (hts (.initialized "java/lang/Math") (List.mem_of_getElem? (i := 5) rfl)) (hts (.code Lib.Math.abs.name Lib.Math.abs.code 1 (some .int)) (List.mem_of_getElem? (i := 6) rfl)) (Nat.le_of_ble_eq_true rfl) (Nat.le_of_ble_eq_true rfl) (Nat.zero_le _) (Nat.zero_le _) dX6_send_98 ?_
          change W _ _ _ _ _ _ _ _ _ _ _ _ _ _ _ (F0 m 101 ls (.int (o_abs (z - (α 7 0 (oN x)))) :: _))
          refine lv_iconst (v := 5) hx hb dX6_send_101 (by decide) ?_
          refine lv_idiv hx hb dX6_send_102 (by decide) ?_
          refine o_iast (k := oN x) hx hb hK hP (mw_D G _ hI) hS (3 + 18 * 0 + (8)) 0 (mv_A8 G (z3 α β (su γ 41 0 0 0)) (show 0 < 2 by decide)) rfl (oIn_x c10) (by omega) (by decide) dX6_send_103 (fun H locs hP hD hS => ?_)
          have hP : va_P G.1 vwCl (mw G (z3 (su α 8 0 (oN x) ((o_abs (z - (α 7 0 (oN x)))) / 5)) β (su γ 41 0 0 0))) H := by rw [← (mu_z0 (a := α) (b := β) (c := (su γ 41 0 0 0)) (τ' := su α 8 0 (oN x) ((o_abs (z - (α 7 0 (oN x)))) / 5)) (mvu_A8 G (z3 α β (su γ 41 0 0 0)) (show 0 < 2 by decide) (oN x) ((o_abs (z - (α 7 0 (oN x)))) / 5)))]; exact hP
          clear hD
          refine lv_aload_n hx hb dX6_send_104 rfl (lv_at hl 1 rfl) ?_
          refine va_get (D := G.1) (ci := 8) (v := .ref (ms G 0 0)) (C := RX6) (T := TX6) (N := 6) hx hb hts (fun w9 h9 => List.mem_cons_of_mem _ (List.mem_append_left _ (List.mem_append_right _ (h9)))) hown hK hP (0) (mw_M G (z3 (su α 8 0 (oN x) ((o_abs (z - (α 7 0 (oN x)))) / 5)) β (su γ 41 0 0 0))) rfl 4 (by decide) (hts (.fieldLink RX6 21 "OrganCensusModel" "s" "LOrganCensusModel$State;") (List.mem_of_getElem? (i := 2) rfl)) (fun _ h9 => h9) rfl dX6_send_105 ?_
          refine va_getN (D := G.1) (ci := 7) (v := .ref (ms G 0 6)) (C := RX5) (T := TX5) (N := 21) hx hb hts (fun w9 h9 => List.mem_cons_of_mem _ (List.mem_append_right _ (h9))) hown hK hP (3 + 18 * 0 + (0)) (mv_S G (z3 (su α 8 0 (oN x) ((o_abs (z - (α 7 0 (oN x)))) / 5)) β (su γ 41 0 0 0)) (show 0 < 2 by decide)) rfl 8 (by decide) (va_Nw.use rfl (hN.1 (RX6, 86, RX5, "at", "[I", RX6) (List.mem_of_getElem? (i := 8) rfl))) (fun _ h9 => h9) rfl dX6_send_108 ?_
          refine lv_iload_n hx hb dX6_send_111 rfl (lv_at hl 2 rfl) ?_
          refine lv_iload_n hx hb dX6_send_112 rfl (lv_at hl 3 rfl) ?_
          refine o_iast (k := oN x) hx hb hK hP (mw_D G _ hI) hS (3 + 18 * 0 + (6)) 0 (mv_A6 G (z3 (su α 8 0 (oN x) ((o_abs (z - (α 7 0 (oN x)))) / 5)) β (su γ 41 0 0 0)) (show 0 < 2 by decide)) rfl (oIn_x c10) (by omega) (by decide) dX6_send_113 (fun H locs hP hD hS => ?_)
          have hP : va_P G.1 vwCl (mw G (z3 (su (su α 8 0 (oN x) ((o_abs (z - (α 7 0 (oN x)))) / 5)) 6 0 (oN x) y) β (su γ 41 0 0 0))) H := by rw [← (mu_z0 (a := (su α 8 0 (oN x) ((o_abs (z - (α 7 0 (oN x)))) / 5))) (b := β) (c := (su γ 41 0 0 0)) (τ' := su (su α 8 0 (oN x) ((o_abs (z - (α 7 0 (oN x)))) / 5)) 6 0 (oN x) y) (mvu_A6 G (z3 (su α 8 0 (oN x) ((o_abs (z - (α 7 0 (oN x)))) / 5)) β (su γ 41 0 0 0)) (show 0 < 2 by decide) (oN x) y))]; exact hP
          clear hD
          refine lv_aload_n hx hb dX6_send_114 rfl (lv_at hl 1 rfl) ?_
          refine va_get (D := G.1) (ci := 8) (v := .ref (ms G 0 0)) (C := RX6) (T := TX6) (N := 6) hx hb hts (fun w9 h9 => List.mem_cons_of_mem _ (List.mem_append_left _ (List.mem_append_right _ (h9)))) hown hK hP (0) (mw_M G (z3 (su (su α 8 0 (oN x) ((o_abs (z - (α 7 0 (oN x)))) / 5)) 6 0 (oN x) y) β (su γ 41 0 0 0))) rfl 4 (by decide) (hts (.fieldLink RX6 21 "OrganCensusModel" "s" "LOrganCensusModel$State;") (List.mem_of_getElem? (i := 2) rfl)) (fun _ h9 => h9) rfl dX6_send_115 ?_
          refine va_getN (D := G.1) (ci := 7) (v := .ref (ms G 0 7)) (C := RX5) (T := TX5) (N := 21) hx hb hts (fun w9 h9 => List.mem_cons_of_mem _ (List.mem_append_right _ (h9))) hown hK hP (3 + 18 * 0 + (0)) (mv_S G (z3 (su (su α 8 0 (oN x) ((o_abs (z - (α 7 0 (oN x)))) / 5)) 6 0 (oN x) y) β (su γ 41 0 0 0)) (show 0 < 2 by decide)) rfl 9 (by decide) (va_Nw.use rfl (hN.1 (RX6, 89, RX5, "pitch", "[I", RX6) (List.mem_of_getElem? (i := 9) rfl))) (fun _ h9 => h9) rfl dX6_send_118 ?_
          refine lv_iload_n hx hb dX6_send_121 rfl (lv_at hl 2 rfl) ?_
          refine lv_iload_n hx hb dX6_send_122 rfl (lv_at hl 4 rfl) ?_
          refine o_iast (k := oN x) hx hb hK hP (mw_D G _ hI) hS (3 + 18 * 0 + (7)) 0 (mv_A7 G (z3 (su (su α 8 0 (oN x) ((o_abs (z - (α 7 0 (oN x)))) / 5)) 6 0 (oN x) y) β (su γ 41 0 0 0)) (show 0 < 2 by decide)) rfl (oIn_x c10) (by omega) (by decide) dX6_send_123 (fun H locs hP hD hS => ?_)
          have hP : va_P G.1 vwCl (mw G (z3 (su (su (su α 8 0 (oN x) ((o_abs (z - (α 7 0 (oN x)))) / 5)) 6 0 (oN x) y) 7 0 (oN x) z) β (su γ 41 0 0 0))) H := by rw [← (mu_z0 (a := (su (su α 8 0 (oN x) ((o_abs (z - (α 7 0 (oN x)))) / 5)) 6 0 (oN x) y)) (b := β) (c := (su γ 41 0 0 0)) (τ' := su (su (su α 8 0 (oN x) ((o_abs (z - (α 7 0 (oN x)))) / 5)) 6 0 (oN x) y) 7 0 (oN x) z) (mvu_A7 G (z3 (su (su α 8 0 (oN x) ((o_abs (z - (α 7 0 (oN x)))) / 5)) 6 0 (oN x) y) β (su γ 41 0 0 0)) (show 0 < 2 by decide) (oN x) z))]; exact hP
          clear hD
          refine lv_aload_n hx hb dX6_send_124 rfl (lv_at hl 1 rfl) ?_
          refine va_get (D := G.1) (ci := 8) (v := .ref (ms G 0 0)) (C := RX6) (T := TX6) (N := 6) hx hb hts (fun w9 h9 => List.mem_cons_of_mem _ (List.mem_append_left _ (List.mem_append_right _ (h9)))) hown hK hP (0) (mw_M G (z3 (su (su (su α 8 0 (oN x) ((o_abs (z - (α 7 0 (oN x)))) / 5)) 6 0 (oN x) y) 7 0 (oN x) z) β (su γ 41 0 0 0))) rfl 4 (by decide) (hts (.fieldLink RX6 21 "OrganCensusModel" "s" "LOrganCensusModel$State;") (List.mem_of_getElem? (i := 2) rfl)) (fun _ h9 => h9) rfl dX6_send_125 ?_
          refine va_getN (D := G.1) (ci := 7) (v := .ref (ms G 0 8)) (C := RX5) (T := TX5) (N := 21) hx hb hts (fun w9 h9 => List.mem_cons_of_mem _ (List.mem_append_right _ (h9))) hown hK hP (3 + 18 * 0 + (0)) (mv_S G (z3 (su (su (su α 8 0 (oN x) ((o_abs (z - (α 7 0 (oN x)))) / 5)) 6 0 (oN x) y) 7 0 (oN x) z) β (su γ 41 0 0 0)) (show 0 < 2 by decide)) rfl 10 (by decide) (va_Nw.use rfl (hN.1 (RX6, 119, RX5, "left", "[I", RX6) (List.mem_of_getElem? (i := 15) rfl))) (fun _ h9 => h9) rfl dX6_send_128 ?_
          refine lv_iload_n hx hb dX6_send_131 rfl (lv_at hl 2 rfl) ?_
          refine o_iald (k := oN x) hx hb hK hP (3 + 18 * 0 + (8)) 0 (mv_A8 G (z3 (su (su (su α 8 0 (oN x) ((o_abs (z - (α 7 0 (oN x)))) / 5)) 6 0 (oN x) y) 7 0 (oN x) z) β (su γ 41 0 0 0)) (show 0 < 2 by decide)) rfl (oIn_x c10) (by omega) (by decide) dX6_send_132 ?_
          exact o_iretM hx hb hr hlocks hS dX6_send_133 (by have hP9 := hP; simp (decide := true) only [cSend, mSend, qFar, mT, c10, c19, c42, c77, Bool.true_and, Bool.and_true, Bool.false_and, Bool.and_false, Bool.false_eq_true, if_true, if_false, reduceIte, not_true_eq_false, not_false_eq_true, and_true, and_false, true_and, false_and, Nat.reduceEqDiff, reduceCtorEq]; first | exact hP9 | (rw [su_su] at hP9; exact hP9)) (by simp (decide := true) only [z3, cSend, qFar, su_s, su_k, c10, c19, c42, c77, Bool.true_and, Bool.and_true, Bool.false_and, Bool.and_false, Bool.false_eq_true, if_true, if_false, reduceIte, not_true_eq_false, not_false_eq_true, and_true, and_false, true_and, false_and, Nat.reduceEqDiff, reduceCtorEq]; try rfl)
        · refine lv_iconst (v := 2) hx hb dX6_send_80 (by decide) ?_
          refine lv_iload hx hb dX6_send_81 (lv_at hl 0 rfl) ?_
          refine lv_imul hx hb dX6_send_83 ?_
          refine lv_goto (tgt := 103) hx hb dX6_send_84 (by decide) ?_
          refine o_iast (k := oN x) hx hb hK hP (mw_D G _ hI) hS (3 + 18 * 0 + (8)) 0 (mv_A8 G (z3 α β (su γ 41 0 0 0)) (show 0 < 2 by decide)) rfl (oIn_x c10) (by omega) (by decide) dX6_send_103 (fun H locs hP hD hS => ?_)
          have hP : va_P G.1 vwCl (mw G (z3 (su α 8 0 (oN x) (2 * (o_abs (y - (α 6 0 (oN x)))))) β (su γ 41 0 0 0))) H := by rw [← (mu_z0 (a := α) (b := β) (c := (su γ 41 0 0 0)) (τ' := su α 8 0 (oN x) (2 * (o_abs (y - (α 6 0 (oN x)))))) (mvu_A8 G (z3 α β (su γ 41 0 0 0)) (show 0 < 2 by decide) (oN x) (2 * (o_abs (y - (α 6 0 (oN x)))))))]; exact hP
          clear hD
          refine lv_aload_n hx hb dX6_send_104 rfl (lv_at hl 1 rfl) ?_
          refine va_get (D := G.1) (ci := 8) (v := .ref (ms G 0 0)) (C := RX6) (T := TX6) (N := 6) hx hb hts (fun w9 h9 => List.mem_cons_of_mem _ (List.mem_append_left _ (List.mem_append_right _ (h9)))) hown hK hP (0) (mw_M G (z3 (su α 8 0 (oN x) (2 * (o_abs (y - (α 6 0 (oN x)))))) β (su γ 41 0 0 0))) rfl 4 (by decide) (hts (.fieldLink RX6 21 "OrganCensusModel" "s" "LOrganCensusModel$State;") (List.mem_of_getElem? (i := 2) rfl)) (fun _ h9 => h9) rfl dX6_send_105 ?_
          refine va_getN (D := G.1) (ci := 7) (v := .ref (ms G 0 6)) (C := RX5) (T := TX5) (N := 21) hx hb hts (fun w9 h9 => List.mem_cons_of_mem _ (List.mem_append_right _ (h9))) hown hK hP (3 + 18 * 0 + (0)) (mv_S G (z3 (su α 8 0 (oN x) (2 * (o_abs (y - (α 6 0 (oN x)))))) β (su γ 41 0 0 0)) (show 0 < 2 by decide)) rfl 8 (by decide) (va_Nw.use rfl (hN.1 (RX6, 86, RX5, "at", "[I", RX6) (List.mem_of_getElem? (i := 8) rfl))) (fun _ h9 => h9) rfl dX6_send_108 ?_
          refine lv_iload_n hx hb dX6_send_111 rfl (lv_at hl 2 rfl) ?_
          refine lv_iload_n hx hb dX6_send_112 rfl (lv_at hl 3 rfl) ?_
          refine o_iast (k := oN x) hx hb hK hP (mw_D G _ hI) hS (3 + 18 * 0 + (6)) 0 (mv_A6 G (z3 (su α 8 0 (oN x) (2 * (o_abs (y - (α 6 0 (oN x)))))) β (su γ 41 0 0 0)) (show 0 < 2 by decide)) rfl (oIn_x c10) (by omega) (by decide) dX6_send_113 (fun H locs hP hD hS => ?_)
          have hP : va_P G.1 vwCl (mw G (z3 (su (su α 8 0 (oN x) (2 * (o_abs (y - (α 6 0 (oN x)))))) 6 0 (oN x) y) β (su γ 41 0 0 0))) H := by rw [← (mu_z0 (a := (su α 8 0 (oN x) (2 * (o_abs (y - (α 6 0 (oN x))))))) (b := β) (c := (su γ 41 0 0 0)) (τ' := su (su α 8 0 (oN x) (2 * (o_abs (y - (α 6 0 (oN x)))))) 6 0 (oN x) y) (mvu_A6 G (z3 (su α 8 0 (oN x) (2 * (o_abs (y - (α 6 0 (oN x)))))) β (su γ 41 0 0 0)) (show 0 < 2 by decide) (oN x) y))]; exact hP
          clear hD
          refine lv_aload_n hx hb dX6_send_114 rfl (lv_at hl 1 rfl) ?_
          refine va_get (D := G.1) (ci := 8) (v := .ref (ms G 0 0)) (C := RX6) (T := TX6) (N := 6) hx hb hts (fun w9 h9 => List.mem_cons_of_mem _ (List.mem_append_left _ (List.mem_append_right _ (h9)))) hown hK hP (0) (mw_M G (z3 (su (su α 8 0 (oN x) (2 * (o_abs (y - (α 6 0 (oN x)))))) 6 0 (oN x) y) β (su γ 41 0 0 0))) rfl 4 (by decide) (hts (.fieldLink RX6 21 "OrganCensusModel" "s" "LOrganCensusModel$State;") (List.mem_of_getElem? (i := 2) rfl)) (fun _ h9 => h9) rfl dX6_send_115 ?_
          refine va_getN (D := G.1) (ci := 7) (v := .ref (ms G 0 7)) (C := RX5) (T := TX5) (N := 21) hx hb hts (fun w9 h9 => List.mem_cons_of_mem _ (List.mem_append_right _ (h9))) hown hK hP (3 + 18 * 0 + (0)) (mv_S G (z3 (su (su α 8 0 (oN x) (2 * (o_abs (y - (α 6 0 (oN x)))))) 6 0 (oN x) y) β (su γ 41 0 0 0)) (show 0 < 2 by decide)) rfl 9 (by decide) (va_Nw.use rfl (hN.1 (RX6, 89, RX5, "pitch", "[I", RX6) (List.mem_of_getElem? (i := 9) rfl))) (fun _ h9 => h9) rfl dX6_send_118 ?_
          refine lv_iload_n hx hb dX6_send_121 rfl (lv_at hl 2 rfl) ?_
          refine lv_iload_n hx hb dX6_send_122 rfl (lv_at hl 4 rfl) ?_
          refine o_iast (k := oN x) hx hb hK hP (mw_D G _ hI) hS (3 + 18 * 0 + (7)) 0 (mv_A7 G (z3 (su (su α 8 0 (oN x) (2 * (o_abs (y - (α 6 0 (oN x)))))) 6 0 (oN x) y) β (su γ 41 0 0 0)) (show 0 < 2 by decide)) rfl (oIn_x c10) (by omega) (by decide) dX6_send_123 (fun H locs hP hD hS => ?_)
          have hP : va_P G.1 vwCl (mw G (z3 (su (su (su α 8 0 (oN x) (2 * (o_abs (y - (α 6 0 (oN x)))))) 6 0 (oN x) y) 7 0 (oN x) z) β (su γ 41 0 0 0))) H := by rw [← (mu_z0 (a := (su (su α 8 0 (oN x) (2 * (o_abs (y - (α 6 0 (oN x)))))) 6 0 (oN x) y)) (b := β) (c := (su γ 41 0 0 0)) (τ' := su (su (su α 8 0 (oN x) (2 * (o_abs (y - (α 6 0 (oN x)))))) 6 0 (oN x) y) 7 0 (oN x) z) (mvu_A7 G (z3 (su (su α 8 0 (oN x) (2 * (o_abs (y - (α 6 0 (oN x)))))) 6 0 (oN x) y) β (su γ 41 0 0 0)) (show 0 < 2 by decide) (oN x) z))]; exact hP
          clear hD
          refine lv_aload_n hx hb dX6_send_124 rfl (lv_at hl 1 rfl) ?_
          refine va_get (D := G.1) (ci := 8) (v := .ref (ms G 0 0)) (C := RX6) (T := TX6) (N := 6) hx hb hts (fun w9 h9 => List.mem_cons_of_mem _ (List.mem_append_left _ (List.mem_append_right _ (h9)))) hown hK hP (0) (mw_M G (z3 (su (su (su α 8 0 (oN x) (2 * (o_abs (y - (α 6 0 (oN x)))))) 6 0 (oN x) y) 7 0 (oN x) z) β (su γ 41 0 0 0))) rfl 4 (by decide) (hts (.fieldLink RX6 21 "OrganCensusModel" "s" "LOrganCensusModel$State;") (List.mem_of_getElem? (i := 2) rfl)) (fun _ h9 => h9) rfl dX6_send_125 ?_
          refine va_getN (D := G.1) (ci := 7) (v := .ref (ms G 0 8)) (C := RX5) (T := TX5) (N := 21) hx hb hts (fun w9 h9 => List.mem_cons_of_mem _ (List.mem_append_right _ (h9))) hown hK hP (3 + 18 * 0 + (0)) (mv_S G (z3 (su (su (su α 8 0 (oN x) (2 * (o_abs (y - (α 6 0 (oN x)))))) 6 0 (oN x) y) 7 0 (oN x) z) β (su γ 41 0 0 0)) (show 0 < 2 by decide)) rfl 10 (by decide) (va_Nw.use rfl (hN.1 (RX6, 119, RX5, "left", "[I", RX6) (List.mem_of_getElem? (i := 15) rfl))) (fun _ h9 => h9) rfl dX6_send_128 ?_
          refine lv_iload_n hx hb dX6_send_131 rfl (lv_at hl 2 rfl) ?_
          refine o_iald (k := oN x) hx hb hK hP (3 + 18 * 0 + (8)) 0 (mv_A8 G (z3 (su (su (su α 8 0 (oN x) (2 * (o_abs (y - (α 6 0 (oN x)))))) 6 0 (oN x) y) 7 0 (oN x) z) β (su γ 41 0 0 0)) (show 0 < 2 by decide)) rfl (oIn_x c10) (by omega) (by decide) dX6_send_132 ?_
          exact o_iretM hx hb hr hlocks hS dX6_send_133 (by have hP9 := hP; simp (decide := true) only [cSend, mSend, qFar, mT, c10, c19, c42, c77, Bool.true_and, Bool.and_true, Bool.false_and, Bool.and_false, Bool.false_eq_true, if_true, if_false, reduceIte, not_true_eq_false, not_false_eq_true, and_true, and_false, true_and, false_and, Nat.reduceEqDiff, reduceCtorEq]; first | exact hP9 | (rw [su_su] at hP9; exact hP9)) (by simp (decide := true) only [z3, cSend, qFar, su_s, su_k, c10, c19, c42, c77, Bool.true_and, Bool.and_true, Bool.false_and, Bool.and_false, Bool.false_eq_true, if_true, if_false, reduceIte, not_true_eq_false, not_false_eq_true, and_true, and_false, true_and, false_and, Nat.reduceEqDiff, reduceCtorEq]; try rfl)
      · have c42 : ¬ α 15 0 (6 * oN x + oN y) ≤ 0 := c42
        refine lv_aload_n hx hb dX6_send_45 rfl (lv_at hl 0 rfl) ?_
        refine lv_iconst (v := 2) hx hb dX6_send_46 (by decide) ?_
        refine o_cVmi (q0 := 0) (ci := 8) [.int 2] [] ⟨hx, hb, hml, hown, hts⟩ (m_X6_no l G hI α β (su γ 41 0 0 0) 2) (cwV 1 hts gX6_send_X6_no rfl rfl rfl (by decide +kernel) ⟨Nat.le_of_ble_eq_true rfl, Nat.le_of_ble_eq_true rfl⟩) hK hN hP hS rfl rfl (mw_M G (z3 α β (su γ 41 0 0 0))) rfl hl.1 rfl (Nat.le_of_ble_eq_true rfl) dX6_send_47 ⟨Nat.zero_le _, Nat.zero_le _⟩ (fun H locs hP hS => ?_)
        exact o_iretM hx hb hr hlocks hS dX6_send_50 (by have hP9 := hP; simp (decide := true) only [cSend, mSend, qFar, mT, c10, c19, c42, Bool.true_and, Bool.and_true, Bool.false_and, Bool.and_false, Bool.false_eq_true, if_true, if_false, reduceIte, not_true_eq_false, not_false_eq_true, and_true, and_false, true_and, false_and, Nat.reduceEqDiff, reduceCtorEq]; first | exact hP9 | (rw [su_su] at hP9; exact hP9)) (by simp (decide := true) only [z3, cSend, qFar, su_s, su_k, c10, c19, c42, Bool.true_and, Bool.and_true, Bool.false_and, Bool.and_false, Bool.false_eq_true, if_true, if_false, reduceIte, not_true_eq_false, not_false_eq_true, and_true, and_false, true_and, false_and, Nat.reduceEqDiff, reduceCtorEq]; try rfl)
    · have c19 := bI_eq.mp c19
      refine lv_aload_n hx hb dX6_send_22 rfl (lv_at hl 0 rfl) ?_
      refine lv_iconst (v := 1) hx hb dX6_send_23 (by decide) ?_
      refine o_cVmi (q0 := 0) (ci := 8) [.int 1] [] ⟨hx, hb, hml, hown, hts⟩ (m_X6_no l G hI α β (su γ 41 0 0 0) 1) (cwV 1 hts gX6_send_X6_no rfl rfl rfl (by decide +kernel) ⟨Nat.le_of_ble_eq_true rfl, Nat.le_of_ble_eq_true rfl⟩) hK hN hP hS rfl rfl (mw_M G (z3 α β (su γ 41 0 0 0))) rfl hl.1 rfl (Nat.le_of_ble_eq_true rfl) dX6_send_24 ⟨Nat.zero_le _, Nat.zero_le _⟩ (fun H locs hP hS => ?_)
      exact o_iretM hx hb hr hlocks hS dX6_send_27 (by have hP9 := hP; simp (decide := true) only [cSend, mSend, qFar, mT, c10, c19, Bool.true_and, Bool.and_true, Bool.false_and, Bool.and_false, Bool.false_eq_true, if_true, if_false, reduceIte, not_true_eq_false, not_false_eq_true, and_true, and_false, true_and, false_and, Nat.reduceEqDiff, reduceCtorEq]; first | exact hP9 | (rw [su_su] at hP9; exact hP9)) (by simp (decide := true) only [z3, cSend, qFar, su_s, su_k, c10, c19, Bool.true_and, Bool.and_true, Bool.false_and, Bool.and_false, Bool.false_eq_true, if_true, if_false, reduceIte, not_true_eq_false, not_false_eq_true, and_true, and_false, true_and, false_and, Nat.reduceEqDiff, reduceCtorEq]; try rfl)
set_option maxHeartbeats 4000000 in
set_option maxRecDepth 100000 in
theorem m_X6_pass (l : Launch) (G : oG) (Z : oZ) {o : Nat} (ho : o < 2) (hI : wl_I G.2.1 39) (τ : oT) (nS : Nat) (nO : Nat) (nH : Nat) (hz : qOK τ nS nO nH) (h : Nat) (ah : Int32) (eh : ah = nI h) (hh : nH + h < 1000000) : Met l yX6_pass wsX6_pass ({ frames := 6, cells := 0, slots := 0, locals := 144 } : Room) (va_Pc [.ref (ms G o 0), .int ah] (PW G (mtw G Z o τ))) (oQ (some (.int (qPs τ (Z 2 42 0) nS nO nH h))) (fun H9 => va_P G.1 vwCl (mtw G Z o (qPn τ (Z 2 42 0) nS nO nH h)) H9) (mA G)) 0 0 (mA G) := by
  subst eh
  refine o_body (cc := cX6_pass) (by decide +kernel) rfl (Nat.le_of_ble_eq_true rfl) ?_
  intro p e s m below meth c ls hx hb hml hr hlocks hown hts hP hK hN hl
  have hown : s.vm.findClass RX6 = some m.cls := hown
  have hl : lv_has ls 4 [(0, .ref (ms G o 0)), (1, .int (nI h))] := hl
  have hS : va_S (mA G) s.heap s.heap [] := va_S.rf
  obtain ⟨hz1, hz2, hz3, hz4, hz5, hz6, hz7, hz8⟩ := id hz
  refine lv_iconst (v := 0) hx hb dX6_pass_0 (by decide) ?_
  refine lv_istore_n (lv' := [(2, .int 0), (0, .ref (ms G o 0)), (1, .int (nI h))]) hx hb dX6_pass_1 rfl hl (by decide) rfl (fun ls hl => ?_)
  refine lv_iconst (v := 0) hx hb dX6_pass_2 (by decide) ?_
  refine lv_istore_n (lv' := [(3, .int 0), (2, .int 0), (0, .ref (ms G o 0)), (1, .int (nI h))]) hx hb dX6_pass_3 rfl hl (by decide) rfl (fun ls hl => ?_)
  have lp4 : ∀ (d4 k : Nat), k + d4 = h → ∀ x4_2 : Int32, x4_2 = (qPs τ (Z 2 42 0) nS nO nH k) → ∀ x4_3 : Int32, x4_3 = (nI k) → ∀ (τ4 : oT), τ4 = (qPn τ (Z 2 42 0) nS nO nH k) → ∀ (H : Heap) (locs : List Loc), va_P G.1 vwCl (mtw G Z o τ4) H → va_S (mA G) s.heap H locs → ∀ ls : Array Slot, lv_has ls 4 [(0, .ref (ms G o 0)), (1, .int (nI h)), (2, .int x4_2), (3, .int x4_3)] → W p l e ({ frames := 6, cells := 0, slots := 0, locals := 144 } : Room) s m ([.ref (ms G o 0), .int (nI h)] : List Value).toArray below meth c H locs 0 0 (MQ below (oQ (some (.int (qPs τ (Z 2 42 0) nS nO nH h))) (fun H9 => va_P G.1 vwCl (mtw G Z o (qPn τ (Z 2 42 0) nS nO nH h)) H9) (mA G)) ([.ref (ms G o 0), .int (nI h)] : List Value).toArray s 0 0 (mA G)) (F0 m 4 ls []) := by
    intro d4
    induction d4 with
    | zero =>
      intro k hk4 x4_2 e4_2 x4_3 e4_3 τ4 eτ4 H locs hP hS ls hl
      subst e4_2
      subst e4_3
      subst eτ4
      have hz4 : qOK (qPn τ (Z 2 42 0) nS nO nH k) nS nO (nH + k) := qPn_ok hz k (by omega)
      have hk4 : k = h := by omega
      refine lv_iload_n hx hb dX6_pass_4 rfl (lv_at hl 3 rfl) ?_
      refine lv_iload_n hx hb dX6_pass_5 rfl (lv_at hl 1 rfl) ?_
      refine lv_icmp_ge (tgt := 22) hx hb dX6_pass_6 (by decide) (fun c6 => ?_) (fun c6 => ?_)
      · have n6 := (o_nle (a := h) (b := k) rfl rfl (by omega) (by omega)).mp c6
        refine lv_iload_n hx hb dX6_pass_22 rfl (lv_at hl 2 rfl) ?_
        exact o_iretM hx hb hr hlocks hS dX6_pass_23 (by subst hk4; exact hP) (by subst hk4; rfl)
      · have n6 := (mt (o_nle (a := h) (b := k) rfl rfl (by omega) (by omega)).mpr) c6; omega
    | succ d4 ih4 =>
      intro k hk4 x4_2 e4_2 x4_3 e4_3 τ4 eτ4 H locs hP hS ls hl
      subst e4_2
      subst e4_3
      subst eτ4
      have hz4 : qOK (qPn τ (Z 2 42 0) nS nO nH k) nS nO (nH + k) := qPn_ok hz k (by omega)
      have hj4 : k < h := by omega
      refine lv_iload_n hx hb dX6_pass_4 rfl (lv_at hl 3 rfl) ?_
      refine lv_iload_n hx hb dX6_pass_5 rfl (lv_at hl 1 rfl) ?_
      refine lv_icmp_ge (tgt := 22) hx hb dX6_pass_6 (by decide) (fun c6 => ?_) (fun c6 => ?_)
      · have n6 := (o_nle (a := h) (b := k) rfl rfl (by omega) (by omega)).mp c6; omega
      · have n6 := (mt (o_nle (a := h) (b := k) rfl rfl (by omega) (by omega)).mpr) c6
        refine lv_iload_n hx hb dX6_pass_9 rfl (lv_at hl 2 rfl) ?_
        refine lv_aload_n hx hb dX6_pass_10 rfl (lv_at hl 0 rfl) ?_
        refine o_cVmi (q0 := 3 + 18 * o + (0)) (ci := 7) [] [.int (qPs τ (Z 2 42 0) nS nO nH k)] ⟨hx, hb, hml, hown, hts⟩ (m_X5_pass l G Z ho hI (qPn τ (Z 2 42 0) nS nO nH k) nS nO (nH + k) hz4 (by omega)) (cwV 0 hts gX6_pass_X5_pass rfl rfl rfl (by decide +kernel) ⟨Nat.le_of_ble_eq_true rfl, Nat.le_of_ble_eq_true rfl⟩) hK hN hP hS rfl rfl (mt_S G Z ho (qPn τ (Z 2 42 0) nS nO nH k)) rfl hl.1 rfl (Nat.le_of_ble_eq_true rfl) dX6_pass_11 ⟨Nat.zero_le _, Nat.zero_le _⟩ (fun H locs hP hS => ?_)
        refine lv_iadd hx hb dX6_pass_14 ?_
        refine lv_istore_n (lv' := [(2, .int ((qPs τ (Z 2 42 0) nS nO nH k) + (qOver (qHour (qPn τ (Z 2 42 0) nS nO nH k) (Z 2 42 0) nS nO (nH + k)) nO - qOver (qPn τ (Z 2 42 0) nS nO nH k) nO))), (0, .ref (ms G o 0)), (1, .int (nI h)), (3, .int (nI k))]) hx hb dX6_pass_15 rfl hl (by decide) rfl (fun ls hl => ?_)
        refine lv_iinc (v := nI (k + 1)) (lv' := [(3, .int (nI (k + 1))), (2, .int ((qPs τ (Z 2 42 0) nS nO nH k) + (qOver (qHour (qPn τ (Z 2 42 0) nS nO nH k) (Z 2 42 0) nS nO (nH + k)) nO - qOver (qPn τ (Z 2 42 0) nS nO nH k) nO))), (0, .ref (ms G o 0)), (1, .int (nI h))]) hx hb dX6_pass_16 hl (k := 3) rfl (nI_1 k) (by decide) rfl (fun ls hl => ?_)
        refine lv_goto (tgt := 4) hx hb dX6_pass_19 (by decide) ?_
        exact ih4 (k + 1) (by omega) _ (rfl) _ (rfl) _ (rfl) _ _ hP hS ls (lv_sub hl [2, 3, 1, 0] rfl)
  exact lp4 (h) 0 (by omega) _ (rfl) _ (rfl) _ (rfl) _ _ hP hS ls (lv_sub hl [2, 3, 1, 0] rfl)
set_option maxHeartbeats 4000000 in
set_option maxRecDepth 100000 in
theorem m_X6_pass_ (l : Launch) (G : oG) (hI : wl_I G.2.1 39) (α β γ : oT) (nS : Nat) (nO : Nat) (nH : Nat) (hz : qOK α nS nO nH) (hb9 : nH + 100 < 1000000) (x : Int32) : Met l yX6_pass_ wsX6_pass_ ({ frames := 7, cells := 0, slots := 0, locals := 167 } : Room) (va_Pc [.ref (G.2.1 0), .int x] (PW G (mw G (z3 α β γ)))) (oQ (some (.int (if cPass x = 0 then qPs α (γ 42 0) nS nO nH (oN x) else 0))) (fun H9 => va_P G.1 vwCl (mw G (z3 (if cPass x = 0 then qPn α (γ 42 0) nS nO nH (oN x) else α) β (mT γ (cPass x)))) H9) (mA G)) 0 0 (mA G) := by
  refine o_body (cc := cX6_pass_) (by decide +kernel) rfl (Nat.le_of_ble_eq_true rfl) ?_
  intro p e s m below meth c ls hx hb hml hr hlocks hown hts hP hK hN hl
  have hown : s.vm.findClass RX6 = some m.cls := hown
  have hl : lv_has ls 2 [(0, .ref (G.2.1 0)), (1, .int x)] := hl
  have hS : va_S (mA G) s.heap s.heap [] := va_S.rf
  obtain ⟨hz1, hz2, hz3, hz4, hz5, hz6, hz7, hz8⟩ := id hz
  refine lv_aload_n hx hb dX6_pass__0 rfl (lv_at hl 0 rfl) ?_
  refine lv_iconst (v := 0) hx hb dX6_pass__1 (by decide) ?_
  refine va_put (D := G.1) (ci := 8) (v := .int 0) (ty := .int) (C := RX6) (T := TX6) (N := 6) hx hb hts (fun w9 h9 => List.mem_cons_of_mem _ (List.mem_append_left _ (List.mem_append_right _ (h9)))) tyX6 tyX6_ok nmX6 hown hK hP (mw_D G _ hI) hS (0) (mw_M G (z3 α β γ)) rfl 0 (by decide) (hts (.fieldLink RX6 28 "OrganCensusModel" "thrown" "I") (List.mem_of_getElem? (i := 1) rfl)) (fun _ h9 => h9) rfl (by decide +kernel) rfl rfl (Nat.le_of_ble_eq_true rfl) dX6_pass__2 (fun H locs hP hD hS => ?_)
  have hP : va_P G.1 vwCl (mw G (z3 α β (su γ 41 0 0 0))) H := by rw [← (mw_zP (a := α) (b := β) (c := γ) (τ' := su γ 41 0 0 0) (mw_uM0 G (z3 α β γ) 0))]; exact hP
  clear hD
  refine lv_iload_n hx hb dX6_pass__5 rfl (lv_at hl 1 rfl) ?_
  refine lv_iconst (v := 1) hx hb dX6_pass__6 (by decide) ?_
  refine lv_bipush (v := 100) hx hb dX6_pass__7 (by decide) ?_
  refine o_cSi [.int x, .int 1, .int 100] [] ⟨hx, hb, hml, hown, hts⟩ (m_X6_isIn l G (mw G (z3 α β (su γ 41 0 0 0))) x 1 100) (va_cwS 3 hts gX6_pass__X6_isIn rfl rfl rfl (by decide +kernel) ⟨Nat.le_of_ble_eq_true rfl, Nat.le_of_ble_eq_true rfl⟩) hK hN hP rfl hl.1 rfl (Nat.le_of_ble_eq_true rfl) dX6_pass__9 ⟨Nat.zero_le _, Nat.zero_le _⟩ ?_
  refine lv_if_eq (tgt := 26) hx hb dX6_pass__12 (by decide) (fun c12 => ?_) (fun c12 => ?_)
  · have c12 := bI_eq.mp c12
    refine lv_aload_n hx hb dX6_pass__26 rfl (lv_at hl 0 rfl) ?_
    refine lv_iconst (v := 1) hx hb dX6_pass__27 (by decide) ?_
    refine o_cVmi (q0 := 0) (ci := 8) [.int 1] [] ⟨hx, hb, hml, hown, hts⟩ (m_X6_no l G hI α β (su γ 41 0 0 0) 1) (cwV 1 hts gX6_pass__X6_no rfl rfl rfl (by decide +kernel) ⟨Nat.le_of_ble_eq_true rfl, Nat.le_of_ble_eq_true rfl⟩) hK hN hP hS rfl rfl (mw_M G (z3 α β (su γ 41 0 0 0))) rfl hl.1 rfl (Nat.le_of_ble_eq_true rfl) dX6_pass__28 ⟨Nat.zero_le _, Nat.zero_le _⟩ (fun H locs hP hS => ?_)
    exact o_iretM hx hb hr hlocks hS dX6_pass__31 (by have hP9 := hP; simp (decide := true) only [cPass, mT, c12, Bool.true_and, Bool.and_true, Bool.false_and, Bool.and_false, Bool.false_eq_true, if_true, if_false, reduceIte, not_true_eq_false, not_false_eq_true, and_true, and_false, true_and, false_and, Nat.reduceEqDiff, reduceCtorEq]; first | exact hP9 | (rw [su_su] at hP9; exact hP9)) (by simp (decide := true) only [cPass, mT, c12, Bool.true_and, Bool.and_true, Bool.false_and, Bool.and_false, Bool.false_eq_true, if_true, if_false, reduceIte, not_true_eq_false, not_false_eq_true, and_true, and_false, true_and, false_and, Nat.reduceEqDiff, reduceCtorEq]; try rfl)
  · have c12 := bI_ne.mp c12
    have h1 := oRg_1 c12
    have hx9 := oN_of (Int32.le_trans (show (0 : Int32) ≤ 1 by decide) h1.1)
    have n12 : oN x ≤ 100 := (o_nle (y := (100 : Int32)) (b := 100) hx9 rfl oN_lt (by decide)).mp h1.2
    refine lv_aload_n hx hb dX6_pass__15 rfl (lv_at hl 0 rfl) ?_
    refine va_get (D := G.1) (ci := 8) (v := .ref (ms G 0 0)) (C := RX6) (T := TX6) (N := 6) hx hb hts (fun w9 h9 => List.mem_cons_of_mem _ (List.mem_append_left _ (List.mem_append_right _ (h9)))) hown hK hP (0) (mw_M G (z3 α β (su γ 41 0 0 0))) rfl 4 (by decide) (hts (.fieldLink RX6 21 "OrganCensusModel" "s" "LOrganCensusModel$State;") (List.mem_of_getElem? (i := 2) rfl)) (fun _ h9 => h9) rfl dX6_pass__16 ?_
    refine lv_iload_n hx hb dX6_pass__19 rfl (lv_at hl 1 rfl) ?_
    have hP : va_P G.1 vwCl (mtw G (z3 α β (su γ 41 0 0 0)) 0 α) H := by rw [mz0]; exact hP
    refine o_cSmi [.ref (ms G 0 0), .int x] [] ⟨hx, hb, hml, hown, hts⟩ (m_X6_pass l G (z3 α β (su γ 41 0 0 0)) (show 0 < 2 by decide) hI α nS nO nH hz (oN x) x (hx9) (by omega)) (va_cwS 2 hts gX6_pass__X6_pass rfl rfl rfl (by decide +kernel) ⟨Nat.le_of_ble_eq_true rfl, Nat.le_of_ble_eq_true rfl⟩) hK hN hP hS rfl hl.1 rfl (Nat.le_of_ble_eq_true rfl) dX6_pass__20 ⟨Nat.zero_le _, Nat.zero_le _⟩ (fun H locs hP hS => ?_)
    have hP : va_P G.1 vwCl (mw G (z3 (qPn α ((su γ 41 0 0 0) 42 0) nS nO nH (oN x)) β (su γ 41 0 0 0))) H := by rw [mz0] at hP; exact hP
    refine lv_goto (tgt := 31) hx hb dX6_pass__23 (by decide) ?_
    exact o_iretM hx hb hr hlocks hS dX6_pass__31 (by have hP9 := hP; simp (decide := true) only [cPass, mT, c12, Bool.true_and, Bool.and_true, Bool.false_and, Bool.and_false, Bool.false_eq_true, if_true, if_false, reduceIte, not_true_eq_false, not_false_eq_true, and_true, and_false, true_and, false_and, Nat.reduceEqDiff, reduceCtorEq]; first | exact hP9 | (rw [su_su] at hP9; exact hP9)) (by simp (decide := true) only [cPass, mT, c12, Bool.true_and, Bool.and_true, Bool.false_and, Bool.and_false, Bool.false_eq_true, if_true, if_false, reduceIte, not_true_eq_false, not_false_eq_true, and_true, and_false, true_and, false_and, Nat.reduceEqDiff, reduceCtorEq]; try rfl)
set_option maxHeartbeats 4000000 in
set_option maxRecDepth 100000 in
theorem m_X5_become (l : Launch) (G : oG) (hI : wl_I G.2.1 39) (α β γ : oT) : Met l yX5_become wsX5_become ({ frames := 2, cells := 0, slots := 0, locals := 82 } : Room) (va_Pc [.ref (ms G 1 0), .ref (ms G 0 0)] (PW G (mw G (z3 α β γ)))) (oQ none (fun H9 => va_P G.1 vwCl (mw G (z3 α (qBc α β 15) γ)) H9) (mA G)) 0 0 (mA G) := by
  refine o_body (cc := cX5_become) (by decide +kernel) rfl (Nat.le_of_ble_eq_true rfl) ?_
  intro p e s m below meth c ls hx hb hml hr hlocks hown hts hP hK hN hl
  have hown : s.vm.findClass RX5 = some m.cls := hown
  have hl : lv_has ls 2 [(0, .ref (ms G 1 0)), (1, .ref (ms G 0 0))] := hl
  have hS : va_S (mA G) s.heap s.heap [] := va_S.rf
  refine lv_aload_n hx hb dX5_become_0 rfl (lv_at hl 0 rfl) ?_
  refine lv_aload_n hx hb dX5_become_1 rfl (lv_at hl 1 rfl) ?_
  refine va_get (D := G.1) (ci := 7) (v := .int (α 40 0 0)) (C := RX5) (T := TX5) (N := 21) hx hb hts (fun w9 h9 => List.mem_cons_of_mem _ (List.mem_append_right _ (h9))) hown hK hP (3 + 18 * 0 + (0)) (mv_S G (z3 α β γ) (show 0 < 2 by decide)) rfl 0 (by decide) (hts (.fieldLink RX5 74 "OrganCensusModel$State" "hour" "I") (List.mem_of_getElem? (i := 1) rfl)) (fun _ h9 => h9) rfl dX5_become_2 ?_
  refine va_put (D := G.1) (ci := 7) (v := .int (α 40 0 0)) (ty := .int) (C := RX5) (T := TX5) (N := 21) hx hb hts (fun w9 h9 => List.mem_cons_of_mem _ (List.mem_append_right _ (h9))) tyX5 tyX5_ok nmX5 hown hK hP (mw_D G _ hI) hS (3 + 18 * 1 + (0)) (mv_S G (z3 α β γ) (show 1 < 2 by decide)) rfl 0 (by decide) (hts (.fieldLink RX5 74 "OrganCensusModel$State" "hour" "I") (List.mem_of_getElem? (i := 1) rfl)) (fun _ h9 => h9) rfl (by decide +kernel) rfl rfl (Nat.le_of_ble_eq_true rfl) dX5_become_5 (fun H locs hP hD hS => ?_)
  have hP : va_P G.1 vwCl (mw G (z3 α (su β 40 0 0 (α 40 0 0)) γ)) H := by rw [← (mu_z1 (a := α) (b := β) (c := γ) (τ' := su β 40 0 0 (α 40 0 0)) (mvu_S0 G (z3 α β γ) (show 1 < 2 by decide) (α 40 0 0)))]; exact hP
  clear hD
  refine lv_aload_n hx hb dX5_become_8 rfl (lv_at hl 0 rfl) ?_
  refine lv_aload_n hx hb dX5_become_9 rfl (lv_at hl 1 rfl) ?_
  refine va_get (D := G.1) (ci := 7) (v := .int (α 40 0 1)) (C := RX5) (T := TX5) (N := 21) hx hb hts (fun w9 h9 => List.mem_cons_of_mem _ (List.mem_append_right _ (h9))) hown hK hP (3 + 18 * 0 + (0)) (mv_S G (z3 α (su β 40 0 0 (α 40 0 0)) γ) (show 0 < 2 by decide)) rfl 1 (by decide) (hts (.fieldLink RX5 78 "OrganCensusModel$State" "streets" "I") (List.mem_of_getElem? (i := 2) rfl)) (fun _ h9 => h9) rfl dX5_become_10 ?_
  refine va_put (D := G.1) (ci := 7) (v := .int (α 40 0 1)) (ty := .int) (C := RX5) (T := TX5) (N := 21) hx hb hts (fun w9 h9 => List.mem_cons_of_mem _ (List.mem_append_right _ (h9))) tyX5 tyX5_ok nmX5 hown hK hP (mw_D G _ hI) hS (3 + 18 * 1 + (0)) (mv_S G (z3 α (su β 40 0 0 (α 40 0 0)) γ) (show 1 < 2 by decide)) rfl 1 (by decide) (hts (.fieldLink RX5 78 "OrganCensusModel$State" "streets" "I") (List.mem_of_getElem? (i := 2) rfl)) (fun _ h9 => h9) rfl (by decide +kernel) rfl rfl (Nat.le_of_ble_eq_true rfl) dX5_become_13 (fun H locs hP hD hS => ?_)
  have hP : va_P G.1 vwCl (mw G (z3 α (su (su β 40 0 0 (α 40 0 0)) 40 0 1 (α 40 0 1)) γ)) H := by rw [← (mu_z1 (a := α) (b := (su β 40 0 0 (α 40 0 0))) (c := γ) (τ' := su (su β 40 0 0 (α 40 0 0)) 40 0 1 (α 40 0 1)) (mvu_S1 G (z3 α (su β 40 0 0 (α 40 0 0)) γ) (show 1 < 2 by decide) (α 40 0 1)))]; exact hP
  clear hD
  refine lv_aload_n hx hb dX5_become_16 rfl (lv_at hl 0 rfl) ?_
  refine lv_aload_n hx hb dX5_become_17 rfl (lv_at hl 1 rfl) ?_
  refine va_get (D := G.1) (ci := 7) (v := .int (α 40 0 2)) (C := RX5) (T := TX5) (N := 21) hx hb hts (fun w9 h9 => List.mem_cons_of_mem _ (List.mem_append_right _ (h9))) hown hK hP (3 + 18 * 0 + (0)) (mv_S G (z3 α (su (su β 40 0 0 (α 40 0 0)) 40 0 1 (α 40 0 1)) γ) (show 0 < 2 by decide)) rfl 7 (by decide) (hts (.fieldLink RX5 81 "OrganCensusModel$State" "organs" "I") (List.mem_of_getElem? (i := 3) rfl)) (fun _ h9 => h9) rfl dX5_become_18 ?_
  refine va_put (D := G.1) (ci := 7) (v := .int (α 40 0 2)) (ty := .int) (C := RX5) (T := TX5) (N := 21) hx hb hts (fun w9 h9 => List.mem_cons_of_mem _ (List.mem_append_right _ (h9))) tyX5 tyX5_ok nmX5 hown hK hP (mw_D G _ hI) hS (3 + 18 * 1 + (0)) (mv_S G (z3 α (su (su β 40 0 0 (α 40 0 0)) 40 0 1 (α 40 0 1)) γ) (show 1 < 2 by decide)) rfl 7 (by decide) (hts (.fieldLink RX5 81 "OrganCensusModel$State" "organs" "I") (List.mem_of_getElem? (i := 3) rfl)) (fun _ h9 => h9) rfl (by decide +kernel) rfl rfl (Nat.le_of_ble_eq_true rfl) dX5_become_21 (fun H locs hP hD hS => ?_)
  have hP : va_P G.1 vwCl (mw G (z3 α (su (su (su β 40 0 0 (α 40 0 0)) 40 0 1 (α 40 0 1)) 40 0 2 (α 40 0 2)) γ)) H := by rw [← (mu_z1 (a := α) (b := (su (su β 40 0 0 (α 40 0 0)) 40 0 1 (α 40 0 1))) (c := γ) (τ' := su (su (su β 40 0 0 (α 40 0 0)) 40 0 1 (α 40 0 1)) 40 0 2 (α 40 0 2)) (mvu_S2 G (z3 α (su (su β 40 0 0 (α 40 0 0)) 40 0 1 (α 40 0 1)) γ) (show 1 < 2 by decide) (α 40 0 2)))]; exact hP
  clear hD
  have hP : va_P G.1 vwCl (mw G (z3 α (qBc α β 0) γ)) H := hP
  refine lv_aload_n hx hb dX5_become_24 rfl (lv_at hl 0 rfl) ?_
  refine lv_aload_n hx hb dX5_become_25 rfl (lv_at hl 1 rfl) ?_
  refine va_get (D := G.1) (ci := 7) (v := .ref (ms G 0 1)) (C := RX5) (T := TX5) (N := 21) hx hb hts (fun w9 h9 => List.mem_cons_of_mem _ (List.mem_append_right _ (h9))) hown hK hP (3 + 18 * 0 + (0)) (mv_S G (z3 α (qBc α β 0) γ) (show 0 < 2 by decide)) rfl 2 (by decide) (hts (.fieldLink RX5 15 "OrganCensusModel$State" "pitches" "[I") (List.mem_of_getElem? (i := 4) rfl)) (fun _ h9 => h9) rfl dX5_become_26 ?_
  refine lv_aload_n hx hb dX5_become_29 rfl (lv_at hl 0 rfl) ?_
  refine va_get (D := G.1) (ci := 7) (v := .ref (ms G 1 1)) (C := RX5) (T := TX5) (N := 21) hx hb hts (fun w9 h9 => List.mem_cons_of_mem _ (List.mem_append_right _ (h9))) hown hK hP (3 + 18 * 1 + (0)) (mv_S G (z3 α (qBc α β 0) γ) (show 1 < 2 by decide)) rfl 2 (by decide) (hts (.fieldLink RX5 15 "OrganCensusModel$State" "pitches" "[I") (List.mem_of_getElem? (i := 4) rfl)) (fun _ h9 => h9) rfl dX5_become_30 ?_
  refine o_cVmv (q0 := 3 + 18 * 1 + (0)) (ci := 7) [.ref (ms G 0 1), .ref (ms G 1 1)] [] ⟨hx, hb, hml, hown, hts⟩ (m_X5_copy l G (mw G (z3 α (qBc α β 0) γ)) (mA G) (ms G 1 0) (mv_A1 G (z3 α (qBc α β 0) γ) (show 0 < 2 by decide)) (mv_A1 G (z3 α (qBc α β 0) γ) (show 1 < 2 by decide)) (by decide) (mw_D G _ hI)) (cwV 2 hts gX5_become_X5_copy rfl rfl rfl (by decide +kernel) ⟨Nat.le_of_ble_eq_true rfl, Nat.le_of_ble_eq_true rfl⟩) hK hN hP hS rfl rfl (mv_S G (z3 α (qBc α β 0) γ) (show 1 < 2 by decide)) rfl hl.1 rfl (Nat.le_of_ble_eq_true rfl) dX5_become_33 ⟨Nat.zero_le _, Nat.zero_le _⟩ (fun H locs hP hS => ?_)
  have hP : va_P G.1 vwCl (mw G (z3 α (sw (qBc α β 0) 1 0 (va_cpy (α 1 0) ((qBc α β 0) 1 0) 0 0 6)) γ)) H := by rw [← (mu_z1 (a := α) (b := (qBc α β 0)) (c := γ) (τ' := sw (qBc α β 0) 1 0 (va_cpy (α 1 0) ((qBc α β 0) 1 0) 0 0 6)) (mvw_A1 G (z3 α (qBc α β 0) γ) (show 1 < 2 by decide) (va_cpy (α 1 0) ((qBc α β 0) 1 0) 0 0 6)))]; exact hP
  have hP : va_P G.1 vwCl (mw G (z3 α (qBc α β 1) γ)) H := hP
  refine lv_aload_n hx hb dX5_become_36 rfl (lv_at hl 0 rfl) ?_
  refine lv_aload_n hx hb dX5_become_37 rfl (lv_at hl 1 rfl) ?_
  refine va_get (D := G.1) (ci := 7) (v := .ref (ms G 0 2)) (C := RX5) (T := TX5) (N := 21) hx hb hts (fun w9 h9 => List.mem_cons_of_mem _ (List.mem_append_right _ (h9))) hown hK hP (3 + 18 * 0 + (0)) (mv_S G (z3 α (qBc α β 1) γ) (show 0 < 2 by decide)) rfl 3 (by decide) (hts (.fieldLink RX5 19 "OrganCensusModel$State" "taste" "[I") (List.mem_of_getElem? (i := 5) rfl)) (fun _ h9 => h9) rfl dX5_become_38 ?_
  refine lv_aload_n hx hb dX5_become_41 rfl (lv_at hl 0 rfl) ?_
  refine va_get (D := G.1) (ci := 7) (v := .ref (ms G 1 2)) (C := RX5) (T := TX5) (N := 21) hx hb hts (fun w9 h9 => List.mem_cons_of_mem _ (List.mem_append_right _ (h9))) hown hK hP (3 + 18 * 1 + (0)) (mv_S G (z3 α (qBc α β 1) γ) (show 1 < 2 by decide)) rfl 3 (by decide) (hts (.fieldLink RX5 19 "OrganCensusModel$State" "taste" "[I") (List.mem_of_getElem? (i := 5) rfl)) (fun _ h9 => h9) rfl dX5_become_42 ?_
  refine o_cVmv (q0 := 3 + 18 * 1 + (0)) (ci := 7) [.ref (ms G 0 2), .ref (ms G 1 2)] [] ⟨hx, hb, hml, hown, hts⟩ (m_X5_copy l G (mw G (z3 α (qBc α β 1) γ)) (mA G) (ms G 1 0) (mv_A2 G (z3 α (qBc α β 1) γ) (show 0 < 2 by decide)) (mv_A2 G (z3 α (qBc α β 1) γ) (show 1 < 2 by decide)) (by decide) (mw_D G _ hI)) (cwV 2 hts gX5_become_X5_copy rfl rfl rfl (by decide +kernel) ⟨Nat.le_of_ble_eq_true rfl, Nat.le_of_ble_eq_true rfl⟩) hK hN hP hS rfl rfl (mv_S G (z3 α (qBc α β 1) γ) (show 1 < 2 by decide)) rfl hl.1 rfl (Nat.le_of_ble_eq_true rfl) dX5_become_45 ⟨Nat.zero_le _, Nat.zero_le _⟩ (fun H locs hP hS => ?_)
  have hP : va_P G.1 vwCl (mw G (z3 α (sw (qBc α β 1) 2 0 (va_cpy (α 2 0) ((qBc α β 1) 2 0) 0 0 36)) γ)) H := by rw [← (mu_z1 (a := α) (b := (qBc α β 1)) (c := γ) (τ' := sw (qBc α β 1) 2 0 (va_cpy (α 2 0) ((qBc α β 1) 2 0) 0 0 36)) (mvw_A2 G (z3 α (qBc α β 1) γ) (show 1 < 2 by decide) (va_cpy (α 2 0) ((qBc α β 1) 2 0) 0 0 36)))]; exact hP
  have hP : va_P G.1 vwCl (mw G (z3 α (qBc α β 2) γ)) H := hP
  refine lv_aload_n hx hb dX5_become_48 rfl (lv_at hl 0 rfl) ?_
  refine lv_aload_n hx hb dX5_become_49 rfl (lv_at hl 1 rfl) ?_
  refine va_get (D := G.1) (ci := 7) (v := .ref (ms G 0 3)) (C := RX5) (T := TX5) (N := 21) hx hb hts (fun w9 h9 => List.mem_cons_of_mem _ (List.mem_append_right _ (h9))) hown hK hP (3 + 18 * 0 + (0)) (mv_S G (z3 α (qBc α β 2) γ) (show 0 < 2 by decide)) rfl 4 (by decide) (hts (.fieldLink RX5 22 "OrganCensusModel$State" "weary" "[I") (List.mem_of_getElem? (i := 6) rfl)) (fun _ h9 => h9) rfl dX5_become_50 ?_
  refine lv_aload_n hx hb dX5_become_53 rfl (lv_at hl 0 rfl) ?_
  refine va_get (D := G.1) (ci := 7) (v := .ref (ms G 1 3)) (C := RX5) (T := TX5) (N := 21) hx hb hts (fun w9 h9 => List.mem_cons_of_mem _ (List.mem_append_right _ (h9))) hown hK hP (3 + 18 * 1 + (0)) (mv_S G (z3 α (qBc α β 2) γ) (show 1 < 2 by decide)) rfl 4 (by decide) (hts (.fieldLink RX5 22 "OrganCensusModel$State" "weary" "[I") (List.mem_of_getElem? (i := 6) rfl)) (fun _ h9 => h9) rfl dX5_become_54 ?_
  refine o_cVmv (q0 := 3 + 18 * 1 + (0)) (ci := 7) [.ref (ms G 0 3), .ref (ms G 1 3)] [] ⟨hx, hb, hml, hown, hts⟩ (m_X5_copy l G (mw G (z3 α (qBc α β 2) γ)) (mA G) (ms G 1 0) (mv_A3 G (z3 α (qBc α β 2) γ) (show 0 < 2 by decide)) (mv_A3 G (z3 α (qBc α β 2) γ) (show 1 < 2 by decide)) (by decide) (mw_D G _ hI)) (cwV 2 hts gX5_become_X5_copy rfl rfl rfl (by decide +kernel) ⟨Nat.le_of_ble_eq_true rfl, Nat.le_of_ble_eq_true rfl⟩) hK hN hP hS rfl rfl (mv_S G (z3 α (qBc α β 2) γ) (show 1 < 2 by decide)) rfl hl.1 rfl (Nat.le_of_ble_eq_true rfl) dX5_become_57 ⟨Nat.zero_le _, Nat.zero_le _⟩ (fun H locs hP hS => ?_)
  have hP : va_P G.1 vwCl (mw G (z3 α (sw (qBc α β 2) 3 0 (va_cpy (α 3 0) ((qBc α β 2) 3 0) 0 0 36)) γ)) H := by rw [← (mu_z1 (a := α) (b := (qBc α β 2)) (c := γ) (τ' := sw (qBc α β 2) 3 0 (va_cpy (α 3 0) ((qBc α β 2) 3 0) 0 0 36)) (mvw_A3 G (z3 α (qBc α β 2) γ) (show 1 < 2 by decide) (va_cpy (α 3 0) ((qBc α β 2) 3 0) 0 0 36)))]; exact hP
  have hP : va_P G.1 vwCl (mw G (z3 α (qBc α β 3) γ)) H := hP
  refine lv_aload_n hx hb dX5_become_60 rfl (lv_at hl 0 rfl) ?_
  refine lv_aload_n hx hb dX5_become_61 rfl (lv_at hl 1 rfl) ?_
  refine va_get (D := G.1) (ci := 7) (v := .ref (ms G 0 4)) (C := RX5) (T := TX5) (N := 21) hx hb hts (fun w9 h9 => List.mem_cons_of_mem _ (List.mem_append_right _ (h9))) hown hK hP (3 + 18 * 0 + (0)) (mv_S G (z3 α (qBc α β 3) γ) (show 0 < 2 by decide)) rfl 5 (by decide) (hts (.fieldLink RX5 25 "OrganCensusModel$State" "given" "[I") (List.mem_of_getElem? (i := 7) rfl)) (fun _ h9 => h9) rfl dX5_become_62 ?_
  refine lv_aload_n hx hb dX5_become_65 rfl (lv_at hl 0 rfl) ?_
  refine va_get (D := G.1) (ci := 7) (v := .ref (ms G 1 4)) (C := RX5) (T := TX5) (N := 21) hx hb hts (fun w9 h9 => List.mem_cons_of_mem _ (List.mem_append_right _ (h9))) hown hK hP (3 + 18 * 1 + (0)) (mv_S G (z3 α (qBc α β 3) γ) (show 1 < 2 by decide)) rfl 5 (by decide) (hts (.fieldLink RX5 25 "OrganCensusModel$State" "given" "[I") (List.mem_of_getElem? (i := 7) rfl)) (fun _ h9 => h9) rfl dX5_become_66 ?_
  refine o_cVmv (q0 := 3 + 18 * 1 + (0)) (ci := 7) [.ref (ms G 0 4), .ref (ms G 1 4)] [] ⟨hx, hb, hml, hown, hts⟩ (m_X5_copy l G (mw G (z3 α (qBc α β 3) γ)) (mA G) (ms G 1 0) (mv_A4 G (z3 α (qBc α β 3) γ) (show 0 < 2 by decide)) (mv_A4 G (z3 α (qBc α β 3) γ) (show 1 < 2 by decide)) (by decide) (mw_D G _ hI)) (cwV 2 hts gX5_become_X5_copy rfl rfl rfl (by decide +kernel) ⟨Nat.le_of_ble_eq_true rfl, Nat.le_of_ble_eq_true rfl⟩) hK hN hP hS rfl rfl (mv_S G (z3 α (qBc α β 3) γ) (show 1 < 2 by decide)) rfl hl.1 rfl (Nat.le_of_ble_eq_true rfl) dX5_become_69 ⟨Nat.zero_le _, Nat.zero_le _⟩ (fun H locs hP hS => ?_)
  have hP : va_P G.1 vwCl (mw G (z3 α (sw (qBc α β 3) 4 0 (va_cpy (α 4 0) ((qBc α β 3) 4 0) 0 0 6)) γ)) H := by rw [← (mu_z1 (a := α) (b := (qBc α β 3)) (c := γ) (τ' := sw (qBc α β 3) 4 0 (va_cpy (α 4 0) ((qBc α β 3) 4 0) 0 0 6)) (mvw_A4 G (z3 α (qBc α β 3) γ) (show 1 < 2 by decide) (va_cpy (α 4 0) ((qBc α β 3) 4 0) 0 0 6)))]; exact hP
  have hP : va_P G.1 vwCl (mw G (z3 α (qBc α β 4) γ)) H := hP
  refine lv_aload_n hx hb dX5_become_72 rfl (lv_at hl 0 rfl) ?_
  refine lv_aload_n hx hb dX5_become_73 rfl (lv_at hl 1 rfl) ?_
  refine va_get (D := G.1) (ci := 7) (v := .ref (ms G 0 5)) (C := RX5) (T := TX5) (N := 21) hx hb hts (fun w9 h9 => List.mem_cons_of_mem _ (List.mem_append_right _ (h9))) hown hK hP (3 + 18 * 0 + (0)) (mv_S G (z3 α (qBc α β 4) γ) (show 0 < 2 by decide)) rfl 6 (by decide) (hts (.fieldLink RX5 28 "OrganCensusModel$State" "sent" "[I") (List.mem_of_getElem? (i := 8) rfl)) (fun _ h9 => h9) rfl dX5_become_74 ?_
  refine lv_aload_n hx hb dX5_become_77 rfl (lv_at hl 0 rfl) ?_
  refine va_get (D := G.1) (ci := 7) (v := .ref (ms G 1 5)) (C := RX5) (T := TX5) (N := 21) hx hb hts (fun w9 h9 => List.mem_cons_of_mem _ (List.mem_append_right _ (h9))) hown hK hP (3 + 18 * 1 + (0)) (mv_S G (z3 α (qBc α β 4) γ) (show 1 < 2 by decide)) rfl 6 (by decide) (hts (.fieldLink RX5 28 "OrganCensusModel$State" "sent" "[I") (List.mem_of_getElem? (i := 8) rfl)) (fun _ h9 => h9) rfl dX5_become_78 ?_
  refine o_cVmv (q0 := 3 + 18 * 1 + (0)) (ci := 7) [.ref (ms G 0 5), .ref (ms G 1 5)] [] ⟨hx, hb, hml, hown, hts⟩ (m_X5_copy l G (mw G (z3 α (qBc α β 4) γ)) (mA G) (ms G 1 0) (mv_A5 G (z3 α (qBc α β 4) γ) (show 0 < 2 by decide)) (mv_A5 G (z3 α (qBc α β 4) γ) (show 1 < 2 by decide)) (by decide) (mw_D G _ hI)) (cwV 2 hts gX5_become_X5_copy rfl rfl rfl (by decide +kernel) ⟨Nat.le_of_ble_eq_true rfl, Nat.le_of_ble_eq_true rfl⟩) hK hN hP hS rfl rfl (mv_S G (z3 α (qBc α β 4) γ) (show 1 < 2 by decide)) rfl hl.1 rfl (Nat.le_of_ble_eq_true rfl) dX5_become_81 ⟨Nat.zero_le _, Nat.zero_le _⟩ (fun H locs hP hS => ?_)
  have hP : va_P G.1 vwCl (mw G (z3 α (sw (qBc α β 4) 5 0 (va_cpy (α 5 0) ((qBc α β 4) 5 0) 0 0 6)) γ)) H := by rw [← (mu_z1 (a := α) (b := (qBc α β 4)) (c := γ) (τ' := sw (qBc α β 4) 5 0 (va_cpy (α 5 0) ((qBc α β 4) 5 0) 0 0 6)) (mvw_A5 G (z3 α (qBc α β 4) γ) (show 1 < 2 by decide) (va_cpy (α 5 0) ((qBc α β 4) 5 0) 0 0 6)))]; exact hP
  have hP : va_P G.1 vwCl (mw G (z3 α (qBc α β 5) γ)) H := hP
  refine lv_aload_n hx hb dX5_become_84 rfl (lv_at hl 0 rfl) ?_
  refine lv_aload_n hx hb dX5_become_85 rfl (lv_at hl 1 rfl) ?_
  refine va_get (D := G.1) (ci := 7) (v := .ref (ms G 0 6)) (C := RX5) (T := TX5) (N := 21) hx hb hts (fun w9 h9 => List.mem_cons_of_mem _ (List.mem_append_right _ (h9))) hown hK hP (3 + 18 * 0 + (0)) (mv_S G (z3 α (qBc α β 5) γ) (show 0 < 2 by decide)) rfl 8 (by decide) (hts (.fieldLink RX5 31 "OrganCensusModel$State" "at" "[I") (List.mem_of_getElem? (i := 9) rfl)) (fun _ h9 => h9) rfl dX5_become_86 ?_
  refine lv_aload_n hx hb dX5_become_89 rfl (lv_at hl 0 rfl) ?_
  refine va_get (D := G.1) (ci := 7) (v := .ref (ms G 1 6)) (C := RX5) (T := TX5) (N := 21) hx hb hts (fun w9 h9 => List.mem_cons_of_mem _ (List.mem_append_right _ (h9))) hown hK hP (3 + 18 * 1 + (0)) (mv_S G (z3 α (qBc α β 5) γ) (show 1 < 2 by decide)) rfl 8 (by decide) (hts (.fieldLink RX5 31 "OrganCensusModel$State" "at" "[I") (List.mem_of_getElem? (i := 9) rfl)) (fun _ h9 => h9) rfl dX5_become_90 ?_
  refine o_cVmv (q0 := 3 + 18 * 1 + (0)) (ci := 7) [.ref (ms G 0 6), .ref (ms G 1 6)] [] ⟨hx, hb, hml, hown, hts⟩ (m_X5_copy l G (mw G (z3 α (qBc α β 5) γ)) (mA G) (ms G 1 0) (mv_A6 G (z3 α (qBc α β 5) γ) (show 0 < 2 by decide)) (mv_A6 G (z3 α (qBc α β 5) γ) (show 1 < 2 by decide)) (by decide) (mw_D G _ hI)) (cwV 2 hts gX5_become_X5_copy rfl rfl rfl (by decide +kernel) ⟨Nat.le_of_ble_eq_true rfl, Nat.le_of_ble_eq_true rfl⟩) hK hN hP hS rfl rfl (mv_S G (z3 α (qBc α β 5) γ) (show 1 < 2 by decide)) rfl hl.1 rfl (Nat.le_of_ble_eq_true rfl) dX5_become_93 ⟨Nat.zero_le _, Nat.zero_le _⟩ (fun H locs hP hS => ?_)
  have hP : va_P G.1 vwCl (mw G (z3 α (sw (qBc α β 5) 6 0 (va_cpy (α 6 0) ((qBc α β 5) 6 0) 0 0 8)) γ)) H := by rw [← (mu_z1 (a := α) (b := (qBc α β 5)) (c := γ) (τ' := sw (qBc α β 5) 6 0 (va_cpy (α 6 0) ((qBc α β 5) 6 0) 0 0 8)) (mvw_A6 G (z3 α (qBc α β 5) γ) (show 1 < 2 by decide) (va_cpy (α 6 0) ((qBc α β 5) 6 0) 0 0 8)))]; exact hP
  have hP : va_P G.1 vwCl (mw G (z3 α (qBc α β 6) γ)) H := hP
  refine lv_aload_n hx hb dX5_become_96 rfl (lv_at hl 0 rfl) ?_
  refine lv_aload_n hx hb dX5_become_97 rfl (lv_at hl 1 rfl) ?_
  refine va_get (D := G.1) (ci := 7) (v := .ref (ms G 0 7)) (C := RX5) (T := TX5) (N := 21) hx hb hts (fun w9 h9 => List.mem_cons_of_mem _ (List.mem_append_right _ (h9))) hown hK hP (3 + 18 * 0 + (0)) (mv_S G (z3 α (qBc α β 6) γ) (show 0 < 2 by decide)) rfl 9 (by decide) (hts (.fieldLink RX5 34 "OrganCensusModel$State" "pitch" "[I") (List.mem_of_getElem? (i := 10) rfl)) (fun _ h9 => h9) rfl dX5_become_98 ?_
  refine lv_aload_n hx hb dX5_become_101 rfl (lv_at hl 0 rfl) ?_
  refine va_get (D := G.1) (ci := 7) (v := .ref (ms G 1 7)) (C := RX5) (T := TX5) (N := 21) hx hb hts (fun w9 h9 => List.mem_cons_of_mem _ (List.mem_append_right _ (h9))) hown hK hP (3 + 18 * 1 + (0)) (mv_S G (z3 α (qBc α β 6) γ) (show 1 < 2 by decide)) rfl 9 (by decide) (hts (.fieldLink RX5 34 "OrganCensusModel$State" "pitch" "[I") (List.mem_of_getElem? (i := 10) rfl)) (fun _ h9 => h9) rfl dX5_become_102 ?_
  refine o_cVmv (q0 := 3 + 18 * 1 + (0)) (ci := 7) [.ref (ms G 0 7), .ref (ms G 1 7)] [] ⟨hx, hb, hml, hown, hts⟩ (m_X5_copy l G (mw G (z3 α (qBc α β 6) γ)) (mA G) (ms G 1 0) (mv_A7 G (z3 α (qBc α β 6) γ) (show 0 < 2 by decide)) (mv_A7 G (z3 α (qBc α β 6) γ) (show 1 < 2 by decide)) (by decide) (mw_D G _ hI)) (cwV 2 hts gX5_become_X5_copy rfl rfl rfl (by decide +kernel) ⟨Nat.le_of_ble_eq_true rfl, Nat.le_of_ble_eq_true rfl⟩) hK hN hP hS rfl rfl (mv_S G (z3 α (qBc α β 6) γ) (show 1 < 2 by decide)) rfl hl.1 rfl (Nat.le_of_ble_eq_true rfl) dX5_become_105 ⟨Nat.zero_le _, Nat.zero_le _⟩ (fun H locs hP hS => ?_)
  have hP : va_P G.1 vwCl (mw G (z3 α (sw (qBc α β 6) 7 0 (va_cpy (α 7 0) ((qBc α β 6) 7 0) 0 0 8)) γ)) H := by rw [← (mu_z1 (a := α) (b := (qBc α β 6)) (c := γ) (τ' := sw (qBc α β 6) 7 0 (va_cpy (α 7 0) ((qBc α β 6) 7 0) 0 0 8)) (mvw_A7 G (z3 α (qBc α β 6) γ) (show 1 < 2 by decide) (va_cpy (α 7 0) ((qBc α β 6) 7 0) 0 0 8)))]; exact hP
  have hP : va_P G.1 vwCl (mw G (z3 α (qBc α β 7) γ)) H := hP
  refine lv_aload_n hx hb dX5_become_108 rfl (lv_at hl 0 rfl) ?_
  refine lv_aload_n hx hb dX5_become_109 rfl (lv_at hl 1 rfl) ?_
  refine va_get (D := G.1) (ci := 7) (v := .ref (ms G 0 8)) (C := RX5) (T := TX5) (N := 21) hx hb hts (fun w9 h9 => List.mem_cons_of_mem _ (List.mem_append_right _ (h9))) hown hK hP (3 + 18 * 0 + (0)) (mv_S G (z3 α (qBc α β 7) γ) (show 0 < 2 by decide)) rfl 10 (by decide) (hts (.fieldLink RX5 37 "OrganCensusModel$State" "left" "[I") (List.mem_of_getElem? (i := 11) rfl)) (fun _ h9 => h9) rfl dX5_become_110 ?_
  refine lv_aload_n hx hb dX5_become_113 rfl (lv_at hl 0 rfl) ?_
  refine va_get (D := G.1) (ci := 7) (v := .ref (ms G 1 8)) (C := RX5) (T := TX5) (N := 21) hx hb hts (fun w9 h9 => List.mem_cons_of_mem _ (List.mem_append_right _ (h9))) hown hK hP (3 + 18 * 1 + (0)) (mv_S G (z3 α (qBc α β 7) γ) (show 1 < 2 by decide)) rfl 10 (by decide) (hts (.fieldLink RX5 37 "OrganCensusModel$State" "left" "[I") (List.mem_of_getElem? (i := 11) rfl)) (fun _ h9 => h9) rfl dX5_become_114 ?_
  refine o_cVmv (q0 := 3 + 18 * 1 + (0)) (ci := 7) [.ref (ms G 0 8), .ref (ms G 1 8)] [] ⟨hx, hb, hml, hown, hts⟩ (m_X5_copy l G (mw G (z3 α (qBc α β 7) γ)) (mA G) (ms G 1 0) (mv_A8 G (z3 α (qBc α β 7) γ) (show 0 < 2 by decide)) (mv_A8 G (z3 α (qBc α β 7) γ) (show 1 < 2 by decide)) (by decide) (mw_D G _ hI)) (cwV 2 hts gX5_become_X5_copy rfl rfl rfl (by decide +kernel) ⟨Nat.le_of_ble_eq_true rfl, Nat.le_of_ble_eq_true rfl⟩) hK hN hP hS rfl rfl (mv_S G (z3 α (qBc α β 7) γ) (show 1 < 2 by decide)) rfl hl.1 rfl (Nat.le_of_ble_eq_true rfl) dX5_become_117 ⟨Nat.zero_le _, Nat.zero_le _⟩ (fun H locs hP hS => ?_)
  have hP : va_P G.1 vwCl (mw G (z3 α (sw (qBc α β 7) 8 0 (va_cpy (α 8 0) ((qBc α β 7) 8 0) 0 0 8)) γ)) H := by rw [← (mu_z1 (a := α) (b := (qBc α β 7)) (c := γ) (τ' := sw (qBc α β 7) 8 0 (va_cpy (α 8 0) ((qBc α β 7) 8 0) 0 0 8)) (mvw_A8 G (z3 α (qBc α β 7) γ) (show 1 < 2 by decide) (va_cpy (α 8 0) ((qBc α β 7) 8 0) 0 0 8)))]; exact hP
  have hP : va_P G.1 vwCl (mw G (z3 α (qBc α β 8) γ)) H := hP
  refine lv_aload_n hx hb dX5_become_120 rfl (lv_at hl 0 rfl) ?_
  refine lv_aload_n hx hb dX5_become_121 rfl (lv_at hl 1 rfl) ?_
  refine va_get (D := G.1) (ci := 7) (v := .ref (ms G 0 9)) (C := RX5) (T := TX5) (N := 21) hx hb hts (fun w9 h9 => List.mem_cons_of_mem _ (List.mem_append_right _ (h9))) hown hK hP (3 + 18 * 0 + (0)) (mv_S G (z3 α (qBc α β 8) γ) (show 0 < 2 by decide)) rfl 11 (by decide) (hts (.fieldLink RX5 40 "OrganCensusModel$State" "loud" "[I") (List.mem_of_getElem? (i := 12) rfl)) (fun _ h9 => h9) rfl dX5_become_122 ?_
  refine lv_aload_n hx hb dX5_become_125 rfl (lv_at hl 0 rfl) ?_
  refine va_get (D := G.1) (ci := 7) (v := .ref (ms G 1 9)) (C := RX5) (T := TX5) (N := 21) hx hb hts (fun w9 h9 => List.mem_cons_of_mem _ (List.mem_append_right _ (h9))) hown hK hP (3 + 18 * 1 + (0)) (mv_S G (z3 α (qBc α β 8) γ) (show 1 < 2 by decide)) rfl 11 (by decide) (hts (.fieldLink RX5 40 "OrganCensusModel$State" "loud" "[I") (List.mem_of_getElem? (i := 12) rfl)) (fun _ h9 => h9) rfl dX5_become_126 ?_
  refine o_cVmv (q0 := 3 + 18 * 1 + (0)) (ci := 7) [.ref (ms G 0 9), .ref (ms G 1 9)] [] ⟨hx, hb, hml, hown, hts⟩ (m_X5_copy l G (mw G (z3 α (qBc α β 8) γ)) (mA G) (ms G 1 0) (mv_A9 G (z3 α (qBc α β 8) γ) (show 0 < 2 by decide)) (mv_A9 G (z3 α (qBc α β 8) γ) (show 1 < 2 by decide)) (by decide) (mw_D G _ hI)) (cwV 2 hts gX5_become_X5_copy rfl rfl rfl (by decide +kernel) ⟨Nat.le_of_ble_eq_true rfl, Nat.le_of_ble_eq_true rfl⟩) hK hN hP hS rfl rfl (mv_S G (z3 α (qBc α β 8) γ) (show 1 < 2 by decide)) rfl hl.1 rfl (Nat.le_of_ble_eq_true rfl) dX5_become_129 ⟨Nat.zero_le _, Nat.zero_le _⟩ (fun H locs hP hS => ?_)
  have hP : va_P G.1 vwCl (mw G (z3 α (sw (qBc α β 8) 9 0 (va_cpy (α 9 0) ((qBc α β 8) 9 0) 0 0 8)) γ)) H := by rw [← (mu_z1 (a := α) (b := (qBc α β 8)) (c := γ) (τ' := sw (qBc α β 8) 9 0 (va_cpy (α 9 0) ((qBc α β 8) 9 0) 0 0 8)) (mvw_A9 G (z3 α (qBc α β 8) γ) (show 1 < 2 by decide) (va_cpy (α 9 0) ((qBc α β 8) 9 0) 0 0 8)))]; exact hP
  have hP : va_P G.1 vwCl (mw G (z3 α (qBc α β 9) γ)) H := hP
  refine lv_aload_n hx hb dX5_become_132 rfl (lv_at hl 0 rfl) ?_
  refine lv_aload_n hx hb dX5_become_133 rfl (lv_at hl 1 rfl) ?_
  refine va_get (D := G.1) (ci := 7) (v := .ref (ms G 0 10)) (C := RX5) (T := TX5) (N := 21) hx hb hts (fun w9 h9 => List.mem_cons_of_mem _ (List.mem_append_right _ (h9))) hown hK hP (3 + 18 * 0 + (0)) (mv_S G (z3 α (qBc α β 9) γ) (show 0 < 2 by decide)) rfl 12 (by decide) (hts (.fieldLink RX5 43 "OrganCensusModel$State" "coins" "[I") (List.mem_of_getElem? (i := 13) rfl)) (fun _ h9 => h9) rfl dX5_become_134 ?_
  refine lv_aload_n hx hb dX5_become_137 rfl (lv_at hl 0 rfl) ?_
  refine va_get (D := G.1) (ci := 7) (v := .ref (ms G 1 10)) (C := RX5) (T := TX5) (N := 21) hx hb hts (fun w9 h9 => List.mem_cons_of_mem _ (List.mem_append_right _ (h9))) hown hK hP (3 + 18 * 1 + (0)) (mv_S G (z3 α (qBc α β 9) γ) (show 1 < 2 by decide)) rfl 12 (by decide) (hts (.fieldLink RX5 43 "OrganCensusModel$State" "coins" "[I") (List.mem_of_getElem? (i := 13) rfl)) (fun _ h9 => h9) rfl dX5_become_138 ?_
  refine o_cVmv (q0 := 3 + 18 * 1 + (0)) (ci := 7) [.ref (ms G 0 10), .ref (ms G 1 10)] [] ⟨hx, hb, hml, hown, hts⟩ (m_X5_copy l G (mw G (z3 α (qBc α β 9) γ)) (mA G) (ms G 1 0) (mv_A10 G (z3 α (qBc α β 9) γ) (show 0 < 2 by decide)) (mv_A10 G (z3 α (qBc α β 9) γ) (show 1 < 2 by decide)) (by decide) (mw_D G _ hI)) (cwV 2 hts gX5_become_X5_copy rfl rfl rfl (by decide +kernel) ⟨Nat.le_of_ble_eq_true rfl, Nat.le_of_ble_eq_true rfl⟩) hK hN hP hS rfl rfl (mv_S G (z3 α (qBc α β 9) γ) (show 1 < 2 by decide)) rfl hl.1 rfl (Nat.le_of_ble_eq_true rfl) dX5_become_141 ⟨Nat.zero_le _, Nat.zero_le _⟩ (fun H locs hP hS => ?_)
  have hP : va_P G.1 vwCl (mw G (z3 α (sw (qBc α β 9) 10 0 (va_cpy (α 10 0) ((qBc α β 9) 10 0) 0 0 8)) γ)) H := by rw [← (mu_z1 (a := α) (b := (qBc α β 9)) (c := γ) (τ' := sw (qBc α β 9) 10 0 (va_cpy (α 10 0) ((qBc α β 9) 10 0) 0 0 8)) (mvw_A10 G (z3 α (qBc α β 9) γ) (show 1 < 2 by decide) (va_cpy (α 10 0) ((qBc α β 9) 10 0) 0 0 8)))]; exact hP
  have hP : va_P G.1 vwCl (mw G (z3 α (qBc α β 10) γ)) H := hP
  refine lv_aload_n hx hb dX5_become_144 rfl (lv_at hl 0 rfl) ?_
  refine lv_aload_n hx hb dX5_become_145 rfl (lv_at hl 1 rfl) ?_
  refine va_get (D := G.1) (ci := 7) (v := .ref (ms G 0 11)) (C := RX5) (T := TX5) (N := 21) hx hb hts (fun w9 h9 => List.mem_cons_of_mem _ (List.mem_append_right _ (h9))) hown hK hP (3 + 18 * 0 + (0)) (mv_S G (z3 α (qBc α β 10) γ) (show 0 < 2 by decide)) rfl 13 (by decide) (hts (.fieldLink RX5 46 "OrganCensusModel$State" "barrel" "[I") (List.mem_of_getElem? (i := 14) rfl)) (fun _ h9 => h9) rfl dX5_become_146 ?_
  refine lv_aload_n hx hb dX5_become_149 rfl (lv_at hl 0 rfl) ?_
  refine va_get (D := G.1) (ci := 7) (v := .ref (ms G 1 11)) (C := RX5) (T := TX5) (N := 21) hx hb hts (fun w9 h9 => List.mem_cons_of_mem _ (List.mem_append_right _ (h9))) hown hK hP (3 + 18 * 1 + (0)) (mv_S G (z3 α (qBc α β 10) γ) (show 1 < 2 by decide)) rfl 13 (by decide) (hts (.fieldLink RX5 46 "OrganCensusModel$State" "barrel" "[I") (List.mem_of_getElem? (i := 14) rfl)) (fun _ h9 => h9) rfl dX5_become_150 ?_
  refine o_cVmv (q0 := 3 + 18 * 1 + (0)) (ci := 7) [.ref (ms G 0 11), .ref (ms G 1 11)] [] ⟨hx, hb, hml, hown, hts⟩ (m_X5_copy l G (mw G (z3 α (qBc α β 10) γ)) (mA G) (ms G 1 0) (mv_A11 G (z3 α (qBc α β 10) γ) (show 0 < 2 by decide)) (mv_A11 G (z3 α (qBc α β 10) γ) (show 1 < 2 by decide)) (by decide) (mw_D G _ hI)) (cwV 2 hts gX5_become_X5_copy rfl rfl rfl (by decide +kernel) ⟨Nat.le_of_ble_eq_true rfl, Nat.le_of_ble_eq_true rfl⟩) hK hN hP hS rfl rfl (mv_S G (z3 α (qBc α β 10) γ) (show 1 < 2 by decide)) rfl hl.1 rfl (Nat.le_of_ble_eq_true rfl) dX5_become_153 ⟨Nat.zero_le _, Nat.zero_le _⟩ (fun H locs hP hS => ?_)
  have hP : va_P G.1 vwCl (mw G (z3 α (sw (qBc α β 10) 11 0 (va_cpy (α 11 0) ((qBc α β 10) 11 0) 0 0 8)) γ)) H := by rw [← (mu_z1 (a := α) (b := (qBc α β 10)) (c := γ) (τ' := sw (qBc α β 10) 11 0 (va_cpy (α 11 0) ((qBc α β 10) 11 0) 0 0 8)) (mvw_A11 G (z3 α (qBc α β 10) γ) (show 1 < 2 by decide) (va_cpy (α 11 0) ((qBc α β 10) 11 0) 0 0 8)))]; exact hP
  have hP : va_P G.1 vwCl (mw G (z3 α (qBc α β 11) γ)) H := hP
  refine lv_aload_n hx hb dX5_become_156 rfl (lv_at hl 0 rfl) ?_
  refine lv_aload_n hx hb dX5_become_157 rfl (lv_at hl 1 rfl) ?_
  refine va_get (D := G.1) (ci := 7) (v := .ref (ms G 0 12)) (C := RX5) (T := TX5) (N := 21) hx hb hts (fun w9 h9 => List.mem_cons_of_mem _ (List.mem_append_right _ (h9))) hown hK hP (3 + 18 * 0 + (0)) (mv_S G (z3 α (qBc α β 11) γ) (show 0 < 2 by decide)) rfl 14 (by decide) (hts (.fieldLink RX5 49 "OrganCensusModel$State" "place" "[I") (List.mem_of_getElem? (i := 15) rfl)) (fun _ h9 => h9) rfl dX5_become_158 ?_
  refine lv_aload_n hx hb dX5_become_161 rfl (lv_at hl 0 rfl) ?_
  refine va_get (D := G.1) (ci := 7) (v := .ref (ms G 1 12)) (C := RX5) (T := TX5) (N := 21) hx hb hts (fun w9 h9 => List.mem_cons_of_mem _ (List.mem_append_right _ (h9))) hown hK hP (3 + 18 * 1 + (0)) (mv_S G (z3 α (qBc α β 11) γ) (show 1 < 2 by decide)) rfl 14 (by decide) (hts (.fieldLink RX5 49 "OrganCensusModel$State" "place" "[I") (List.mem_of_getElem? (i := 15) rfl)) (fun _ h9 => h9) rfl dX5_become_162 ?_
  refine o_cVmv (q0 := 3 + 18 * 1 + (0)) (ci := 7) [.ref (ms G 0 12), .ref (ms G 1 12)] [] ⟨hx, hb, hml, hown, hts⟩ (m_X5_copy l G (mw G (z3 α (qBc α β 11) γ)) (mA G) (ms G 1 0) (mv_A12 G (z3 α (qBc α β 11) γ) (show 0 < 2 by decide)) (mv_A12 G (z3 α (qBc α β 11) γ) (show 1 < 2 by decide)) (by decide) (mw_D G _ hI)) (cwV 2 hts gX5_become_X5_copy rfl rfl rfl (by decide +kernel) ⟨Nat.le_of_ble_eq_true rfl, Nat.le_of_ble_eq_true rfl⟩) hK hN hP hS rfl rfl (mv_S G (z3 α (qBc α β 11) γ) (show 1 < 2 by decide)) rfl hl.1 rfl (Nat.le_of_ble_eq_true rfl) dX5_become_165 ⟨Nat.zero_le _, Nat.zero_le _⟩ (fun H locs hP hS => ?_)
  have hP : va_P G.1 vwCl (mw G (z3 α (sw (qBc α β 11) 12 0 (va_cpy (α 12 0) ((qBc α β 11) 12 0) 0 0 8)) γ)) H := by rw [← (mu_z1 (a := α) (b := (qBc α β 11)) (c := γ) (τ' := sw (qBc α β 11) 12 0 (va_cpy (α 12 0) ((qBc α β 11) 12 0) 0 0 8)) (mvw_A12 G (z3 α (qBc α β 11) γ) (show 1 < 2 by decide) (va_cpy (α 12 0) ((qBc α β 11) 12 0) 0 0 8)))]; exact hP
  have hP : va_P G.1 vwCl (mw G (z3 α (qBc α β 12) γ)) H := hP
  refine lv_aload_n hx hb dX5_become_168 rfl (lv_at hl 0 rfl) ?_
  refine lv_aload_n hx hb dX5_become_169 rfl (lv_at hl 1 rfl) ?_
  refine va_get (D := G.1) (ci := 7) (v := .ref (ms G 0 13)) (C := RX5) (T := TX5) (N := 21) hx hb hts (fun w9 h9 => List.mem_cons_of_mem _ (List.mem_append_right _ (h9))) hown hK hP (3 + 18 * 0 + (0)) (mv_S G (z3 α (qBc α β 12) γ) (show 0 < 2 by decide)) rfl 15 (by decide) (hts (.fieldLink RX5 52 "OrganCensusModel$State" "wear" "[I") (List.mem_of_getElem? (i := 16) rfl)) (fun _ h9 => h9) rfl dX5_become_170 ?_
  refine lv_aload_n hx hb dX5_become_173 rfl (lv_at hl 0 rfl) ?_
  refine va_get (D := G.1) (ci := 7) (v := .ref (ms G 1 13)) (C := RX5) (T := TX5) (N := 21) hx hb hts (fun w9 h9 => List.mem_cons_of_mem _ (List.mem_append_right _ (h9))) hown hK hP (3 + 18 * 1 + (0)) (mv_S G (z3 α (qBc α β 12) γ) (show 1 < 2 by decide)) rfl 15 (by decide) (hts (.fieldLink RX5 52 "OrganCensusModel$State" "wear" "[I") (List.mem_of_getElem? (i := 16) rfl)) (fun _ h9 => h9) rfl dX5_become_174 ?_
  refine o_cVmv (q0 := 3 + 18 * 1 + (0)) (ci := 7) [.ref (ms G 0 13), .ref (ms G 1 13)] [] ⟨hx, hb, hml, hown, hts⟩ (m_X5_copy l G (mw G (z3 α (qBc α β 12) γ)) (mA G) (ms G 1 0) (mv_A13 G (z3 α (qBc α β 12) γ) (show 0 < 2 by decide)) (mv_A13 G (z3 α (qBc α β 12) γ) (show 1 < 2 by decide)) (by decide) (mw_D G _ hI)) (cwV 2 hts gX5_become_X5_copy rfl rfl rfl (by decide +kernel) ⟨Nat.le_of_ble_eq_true rfl, Nat.le_of_ble_eq_true rfl⟩) hK hN hP hS rfl rfl (mv_S G (z3 α (qBc α β 12) γ) (show 1 < 2 by decide)) rfl hl.1 rfl (Nat.le_of_ble_eq_true rfl) dX5_become_177 ⟨Nat.zero_le _, Nat.zero_le _⟩ (fun H locs hP hS => ?_)
  have hP : va_P G.1 vwCl (mw G (z3 α (sw (qBc α β 12) 13 0 (va_cpy (α 13 0) ((qBc α β 12) 13 0) 0 0 48)) γ)) H := by rw [← (mu_z1 (a := α) (b := (qBc α β 12)) (c := γ) (τ' := sw (qBc α β 12) 13 0 (va_cpy (α 13 0) ((qBc α β 12) 13 0) 0 0 48)) (mvw_A13 G (z3 α (qBc α β 12) γ) (show 1 < 2 by decide) (va_cpy (α 13 0) ((qBc α β 12) 13 0) 0 0 48)))]; exact hP
  have hP : va_P G.1 vwCl (mw G (z3 α (qBc α β 13) γ)) H := hP
  refine lv_aload_n hx hb dX5_become_180 rfl (lv_at hl 0 rfl) ?_
  refine lv_aload_n hx hb dX5_become_181 rfl (lv_at hl 1 rfl) ?_
  refine va_get (D := G.1) (ci := 7) (v := .ref (ms G 0 14)) (C := RX5) (T := TX5) (N := 21) hx hb hts (fun w9 h9 => List.mem_cons_of_mem _ (List.mem_append_right _ (h9))) hown hK hP (3 + 18 * 0 + (0)) (mv_S G (z3 α (qBc α β 13) γ) (show 0 < 2 by decide)) rfl 16 (by decide) (hts (.fieldLink RX5 55 "OrganCensusModel$State" "complaints" "[I") (List.mem_of_getElem? (i := 17) rfl)) (fun _ h9 => h9) rfl dX5_become_182 ?_
  refine lv_aload_n hx hb dX5_become_185 rfl (lv_at hl 0 rfl) ?_
  refine va_get (D := G.1) (ci := 7) (v := .ref (ms G 1 14)) (C := RX5) (T := TX5) (N := 21) hx hb hts (fun w9 h9 => List.mem_cons_of_mem _ (List.mem_append_right _ (h9))) hown hK hP (3 + 18 * 1 + (0)) (mv_S G (z3 α (qBc α β 13) γ) (show 1 < 2 by decide)) rfl 16 (by decide) (hts (.fieldLink RX5 55 "OrganCensusModel$State" "complaints" "[I") (List.mem_of_getElem? (i := 17) rfl)) (fun _ h9 => h9) rfl dX5_become_186 ?_
  refine o_cVmv (q0 := 3 + 18 * 1 + (0)) (ci := 7) [.ref (ms G 0 14), .ref (ms G 1 14)] [] ⟨hx, hb, hml, hown, hts⟩ (m_X5_copy l G (mw G (z3 α (qBc α β 13) γ)) (mA G) (ms G 1 0) (mv_A14 G (z3 α (qBc α β 13) γ) (show 0 < 2 by decide)) (mv_A14 G (z3 α (qBc α β 13) γ) (show 1 < 2 by decide)) (by decide) (mw_D G _ hI)) (cwV 2 hts gX5_become_X5_copy rfl rfl rfl (by decide +kernel) ⟨Nat.le_of_ble_eq_true rfl, Nat.le_of_ble_eq_true rfl⟩) hK hN hP hS rfl rfl (mv_S G (z3 α (qBc α β 13) γ) (show 1 < 2 by decide)) rfl hl.1 rfl (Nat.le_of_ble_eq_true rfl) dX5_become_189 ⟨Nat.zero_le _, Nat.zero_le _⟩ (fun H locs hP hS => ?_)
  have hP : va_P G.1 vwCl (mw G (z3 α (sw (qBc α β 13) 14 0 (va_cpy (α 14 0) ((qBc α β 13) 14 0) 0 0 48)) γ)) H := by rw [← (mu_z1 (a := α) (b := (qBc α β 13)) (c := γ) (τ' := sw (qBc α β 13) 14 0 (va_cpy (α 14 0) ((qBc α β 13) 14 0) 0 0 48)) (mvw_A14 G (z3 α (qBc α β 13) γ) (show 1 < 2 by decide) (va_cpy (α 14 0) ((qBc α β 13) 14 0) 0 0 48)))]; exact hP
  have hP : va_P G.1 vwCl (mw G (z3 α (qBc α β 14) γ)) H := hP
  refine lv_aload_n hx hb dX5_become_192 rfl (lv_at hl 0 rfl) ?_
  refine lv_aload_n hx hb dX5_become_193 rfl (lv_at hl 1 rfl) ?_
  refine va_get (D := G.1) (ci := 7) (v := .ref (ms G 0 15)) (C := RX5) (T := TX5) (N := 21) hx hb hts (fun w9 h9 => List.mem_cons_of_mem _ (List.mem_append_right _ (h9))) hown hK hP (3 + 18 * 0 + (0)) (mv_S G (z3 α (qBc α β 14) γ) (show 0 < 2 by decide)) rfl 17 (by decide) (hts (.fieldLink RX5 58 "OrganCensusModel$State" "banished" "[I") (List.mem_of_getElem? (i := 18) rfl)) (fun _ h9 => h9) rfl dX5_become_194 ?_
  refine lv_aload_n hx hb dX5_become_197 rfl (lv_at hl 0 rfl) ?_
  refine va_get (D := G.1) (ci := 7) (v := .ref (ms G 1 15)) (C := RX5) (T := TX5) (N := 21) hx hb hts (fun w9 h9 => List.mem_cons_of_mem _ (List.mem_append_right _ (h9))) hown hK hP (3 + 18 * 1 + (0)) (mv_S G (z3 α (qBc α β 14) γ) (show 1 < 2 by decide)) rfl 17 (by decide) (hts (.fieldLink RX5 58 "OrganCensusModel$State" "banished" "[I") (List.mem_of_getElem? (i := 18) rfl)) (fun _ h9 => h9) rfl dX5_become_198 ?_
  refine o_cVmv (q0 := 3 + 18 * 1 + (0)) (ci := 7) [.ref (ms G 0 15), .ref (ms G 1 15)] [] ⟨hx, hb, hml, hown, hts⟩ (m_X5_copy l G (mw G (z3 α (qBc α β 14) γ)) (mA G) (ms G 1 0) (mv_A15 G (z3 α (qBc α β 14) γ) (show 0 < 2 by decide)) (mv_A15 G (z3 α (qBc α β 14) γ) (show 1 < 2 by decide)) (by decide) (mw_D G _ hI)) (cwV 2 hts gX5_become_X5_copy rfl rfl rfl (by decide +kernel) ⟨Nat.le_of_ble_eq_true rfl, Nat.le_of_ble_eq_true rfl⟩) hK hN hP hS rfl rfl (mv_S G (z3 α (qBc α β 14) γ) (show 1 < 2 by decide)) rfl hl.1 rfl (Nat.le_of_ble_eq_true rfl) dX5_become_201 ⟨Nat.zero_le _, Nat.zero_le _⟩ (fun H locs hP hS => ?_)
  have hP : va_P G.1 vwCl (mw G (z3 α (sw (qBc α β 14) 15 0 (va_cpy (α 15 0) ((qBc α β 14) 15 0) 0 0 48)) γ)) H := by rw [← (mu_z1 (a := α) (b := (qBc α β 14)) (c := γ) (τ' := sw (qBc α β 14) 15 0 (va_cpy (α 15 0) ((qBc α β 14) 15 0) 0 0 48)) (mvw_A15 G (z3 α (qBc α β 14) γ) (show 1 < 2 by decide) (va_cpy (α 15 0) ((qBc α β 14) 15 0) 0 0 48)))]; exact hP
  have hP : va_P G.1 vwCl (mw G (z3 α (qBc α β 15) γ)) H := hP
  exact o_vretM hx hb hr hlocks hS dX5_become_204 (hP)
set_option maxHeartbeats 4000000 in
set_option maxRecDepth 100000 in
theorem m_X6_foresee (l : Launch) (G : oG) (hI : wl_I G.2.1 39) (α β γ : oT) (nS : Nat) (nO : Nat) (nH : Nat) (hz : qOK α nS nO nH) (hb9 : nH + 100 < 1000000) (x : Int32) (y : Int32) : Met l yX6_foresee wsX6_foresee ({ frames := 7, cells := 0, slots := 0, locals := 167 } : Room) (va_Pc [.ref (G.2.1 0), .int x, .int y] (PW G (mw G (z3 α β γ)))) (oQ (some (.int (if cFore nO x y = 0 then qPn (qBc α β 15) (γ 42 0) nS nO nH (oN y) 10 0 (oN x) - α 10 0 (oN x) else 0))) (fun H9 => va_P G.1 vwCl (mw G (z3 α (if cFore nO x y = 0 then qPn (qBc α β 15) (γ 42 0) nS nO nH (oN y) else β) (mT γ (cFore nO x y)))) H9) (mA G)) 0 0 (mA G) := by
  refine o_body (cc := cX6_foresee) (by decide +kernel) rfl (Nat.le_of_ble_eq_true rfl) ?_
  intro p e s m below meth c ls hx hb hml hr hlocks hown hts hP hK hN hl
  have hown : s.vm.findClass RX6 = some m.cls := hown
  have hl : lv_has ls 3 [(0, .ref (G.2.1 0)), (1, .int x), (2, .int y)] := hl
  have hS : va_S (mA G) s.heap s.heap [] := va_S.rf
  obtain ⟨hz1, hz2, hz3, hz4, hz5, hz6, hz7, hz8⟩ := id hz
  refine lv_aload_n hx hb dX6_foresee_0 rfl (lv_at hl 0 rfl) ?_
  refine lv_iconst (v := 0) hx hb dX6_foresee_1 (by decide) ?_
  refine va_put (D := G.1) (ci := 8) (v := .int 0) (ty := .int) (C := RX6) (T := TX6) (N := 6) hx hb hts (fun w9 h9 => List.mem_cons_of_mem _ (List.mem_append_left _ (List.mem_append_right _ (h9)))) tyX6 tyX6_ok nmX6 hown hK hP (mw_D G _ hI) hS (0) (mw_M G (z3 α β γ)) rfl 0 (by decide) (hts (.fieldLink RX6 28 "OrganCensusModel" "thrown" "I") (List.mem_of_getElem? (i := 1) rfl)) (fun _ h9 => h9) rfl (by decide +kernel) rfl rfl (Nat.le_of_ble_eq_true rfl) dX6_foresee_2 (fun H locs hP hD hS => ?_)
  have hP : va_P G.1 vwCl (mw G (z3 α β (su γ 41 0 0 0))) H := by rw [← (mw_zP (a := α) (b := β) (c := γ) (τ' := su γ 41 0 0 0) (mw_uM0 G (z3 α β γ) 0))]; exact hP
  clear hD
  refine lv_aload_n hx hb dX6_foresee_5 rfl (lv_at hl 0 rfl) ?_
  refine lv_iload_n hx hb dX6_foresee_6 rfl (lv_at hl 1 rfl) ?_
  refine o_cVi (q0 := 0) (ci := 8) [.int x] [] ⟨hx, hb, hml, hown, hts⟩ (m_X6_isOrgan l G α β (su γ 41 0 0 0) nS nO nH hz x) (cwV 1 hts gX6_foresee_X6_isOrgan rfl rfl rfl (by decide +kernel) ⟨Nat.le_of_ble_eq_true rfl, Nat.le_of_ble_eq_true rfl⟩) hK hN hP rfl rfl (mw_M G (z3 α β (su γ 41 0 0 0))) rfl hl.1 rfl (Nat.le_of_ble_eq_true rfl) dX6_foresee_7 ⟨Nat.zero_le _, Nat.zero_le _⟩ ?_
  refine lv_if_ne (tgt := 19) hx hb dX6_foresee_10 (by decide) (fun c10 => ?_) (fun c10 => ?_)
  · have c10 := bI_ne.mp c10
    have n10 := oIn_lt (by omega) c10
    refine lv_iload_n hx hb dX6_foresee_19 rfl (lv_at hl 2 rfl) ?_
    refine lv_iconst (v := 1) hx hb dX6_foresee_20 (by decide) ?_
    refine lv_bipush (v := 100) hx hb dX6_foresee_21 (by decide) ?_
    refine o_cSi [.int y, .int 1, .int 100] [] ⟨hx, hb, hml, hown, hts⟩ (m_X6_isIn l G (mw G (z3 α β (su γ 41 0 0 0))) y 1 100) (va_cwS 3 hts gX6_foresee_X6_isIn rfl rfl rfl (by decide +kernel) ⟨Nat.le_of_ble_eq_true rfl, Nat.le_of_ble_eq_true rfl⟩) hK hN hP rfl hl.1 rfl (Nat.le_of_ble_eq_true rfl) dX6_foresee_23 ⟨Nat.zero_le _, Nat.zero_le _⟩ ?_
    refine lv_if_ne (tgt := 35) hx hb dX6_foresee_26 (by decide) (fun c26 => ?_) (fun c26 => ?_)
    · have c26 := bI_ne.mp c26
      have h1 := oRg_1 c26
      have hx9 := oN_of (Int32.le_trans (show (0 : Int32) ≤ 1 by decide) h1.1)
      have n26 : oN y ≤ 100 := (o_nle (y := (100 : Int32)) (b := 100) hx9 rfl oN_lt (by decide)).mp h1.2
      refine lv_aload_n hx hb dX6_foresee_35 rfl (lv_at hl 0 rfl) ?_
      refine va_get (D := G.1) (ci := 8) (v := .ref (ms G 1 0)) (C := RX6) (T := TX6) (N := 6) hx hb hts (fun w9 h9 => List.mem_cons_of_mem _ (List.mem_append_left _ (List.mem_append_right _ (h9)))) hown hK hP (0) (mw_M G (z3 α β (su γ 41 0 0 0))) rfl 5 (by decide) (hts (.fieldLink RX6 25 "OrganCensusModel" "ahead" "LOrganCensusModel$State;") (List.mem_of_getElem? (i := 2) rfl)) (fun _ h9 => h9) rfl dX6_foresee_36 ?_
      refine lv_aload_n hx hb dX6_foresee_39 rfl (lv_at hl 0 rfl) ?_
      refine va_get (D := G.1) (ci := 8) (v := .ref (ms G 0 0)) (C := RX6) (T := TX6) (N := 6) hx hb hts (fun w9 h9 => List.mem_cons_of_mem _ (List.mem_append_left _ (List.mem_append_right _ (h9)))) hown hK hP (0) (mw_M G (z3 α β (su γ 41 0 0 0))) rfl 4 (by decide) (hts (.fieldLink RX6 21 "OrganCensusModel" "s" "LOrganCensusModel$State;") (List.mem_of_getElem? (i := 3) rfl)) (fun _ h9 => h9) rfl dX6_foresee_40 ?_
      refine o_cVmv (q0 := 3 + 18 * 1 + (0)) (ci := 7) [.ref (ms G 0 0)] [] ⟨hx, hb, hml, hown, hts⟩ (m_X5_become l G hI α β (su γ 41 0 0 0)) (cwV 1 hts gX6_foresee_X5_become rfl rfl rfl (by decide +kernel) ⟨Nat.le_of_ble_eq_true rfl, Nat.le_of_ble_eq_true rfl⟩) hK hN hP hS rfl rfl (mv_S G (z3 α β (su γ 41 0 0 0)) (show 1 < 2 by decide)) rfl hl.1 rfl (Nat.le_of_ble_eq_true rfl) dX6_foresee_43 ⟨Nat.zero_le _, Nat.zero_le _⟩ (fun H locs hP hS => ?_)
      have hz43_1 : qOK (qBc α β 15) nS nO nH := qBc_ok hz
      refine lv_aload_n hx hb dX6_foresee_46 rfl (lv_at hl 0 rfl) ?_
      refine va_get (D := G.1) (ci := 8) (v := .ref (ms G 1 0)) (C := RX6) (T := TX6) (N := 6) hx hb hts (fun w9 h9 => List.mem_cons_of_mem _ (List.mem_append_left _ (List.mem_append_right _ (h9)))) hown hK hP (0) (mw_M G (z3 α (qBc α β 15) (su γ 41 0 0 0))) rfl 5 (by decide) (hts (.fieldLink RX6 25 "OrganCensusModel" "ahead" "LOrganCensusModel$State;") (List.mem_of_getElem? (i := 2) rfl)) (fun _ h9 => h9) rfl dX6_foresee_47 ?_
      refine lv_iload_n hx hb dX6_foresee_50 rfl (lv_at hl 2 rfl) ?_
      have hP : va_P G.1 vwCl (mtw G (z3 α (qBc α β 15) (su γ 41 0 0 0)) 1 (qBc α β 15)) H := by rw [mz1]; exact hP
      refine o_cSmi [.ref (ms G 1 0), .int y] [] ⟨hx, hb, hml, hown, hts⟩ (m_X6_pass l G (z3 α (qBc α β 15) (su γ 41 0 0 0)) (show 1 < 2 by decide) hI (qBc α β 15) nS nO nH hz43_1 (oN y) y (hx9) (by omega)) (va_cwS 2 hts gX6_foresee_X6_pass rfl rfl rfl (by decide +kernel) ⟨Nat.le_of_ble_eq_true rfl, Nat.le_of_ble_eq_true rfl⟩) hK hN hP hS rfl hl.1 rfl (Nat.le_of_ble_eq_true rfl) dX6_foresee_51 ⟨Nat.zero_le _, Nat.zero_le _⟩ (fun H locs hP hS => ?_)
      have hP : va_P G.1 vwCl (mw G (z3 α (qPn (qBc α β 15) ((su γ 41 0 0 0) 42 0) nS nO nH (oN y)) (su γ 41 0 0 0))) H := by rw [mz1] at hP; exact hP
      refine lv_pop hx hb dX6_foresee_54 rfl ?_
      refine lv_aload_n hx hb dX6_foresee_55 rfl (lv_at hl 0 rfl) ?_
      refine va_get (D := G.1) (ci := 8) (v := .ref (ms G 1 0)) (C := RX6) (T := TX6) (N := 6) hx hb hts (fun w9 h9 => List.mem_cons_of_mem _ (List.mem_append_left _ (List.mem_append_right _ (h9)))) hown hK hP (0) (mw_M G (z3 α (qPn (qBc α β 15) ((su γ 41 0 0 0) 42 0) nS nO nH (oN y)) (su γ 41 0 0 0))) rfl 5 (by decide) (hts (.fieldLink RX6 25 "OrganCensusModel" "ahead" "LOrganCensusModel$State;") (List.mem_of_getElem? (i := 2) rfl)) (fun _ h9 => h9) rfl dX6_foresee_56 ?_
      refine va_getN (D := G.1) (ci := 7) (v := .ref (ms G 1 10)) (C := RX5) (T := TX5) (N := 21) hx hb hts (fun w9 h9 => List.mem_cons_of_mem _ (List.mem_append_right _ (h9))) hown hK hP (3 + 18 * 1 + (0)) (mv_S G (z3 α (qPn (qBc α β 15) ((su γ 41 0 0 0) 42 0) nS nO nH (oN y)) (su γ 41 0 0 0)) (show 1 < 2 by decide)) rfl 12 (by decide) (va_Nw.use rfl (hN.1 (RX6, 122, RX5, "coins", "[I", RX6) (List.mem_of_getElem? (i := 16) rfl))) (fun _ h9 => h9) rfl dX6_foresee_59 ?_
      refine lv_iload_n hx hb dX6_foresee_62 rfl (lv_at hl 1 rfl) ?_
      refine o_iald (k := oN x) hx hb hK hP (3 + 18 * 1 + (10)) 0 (mv_A10 G (z3 α (qPn (qBc α β 15) ((su γ 41 0 0 0) 42 0) nS nO nH (oN y)) (su γ 41 0 0 0)) (show 1 < 2 by decide)) rfl (oIn_x c10) (by omega) (by decide) dX6_foresee_63 ?_
      refine lv_aload_n hx hb dX6_foresee_64 rfl (lv_at hl 0 rfl) ?_
      refine va_get (D := G.1) (ci := 8) (v := .ref (ms G 0 0)) (C := RX6) (T := TX6) (N := 6) hx hb hts (fun w9 h9 => List.mem_cons_of_mem _ (List.mem_append_left _ (List.mem_append_right _ (h9)))) hown hK hP (0) (mw_M G (z3 α (qPn (qBc α β 15) ((su γ 41 0 0 0) 42 0) nS nO nH (oN y)) (su γ 41 0 0 0))) rfl 4 (by decide) (hts (.fieldLink RX6 21 "OrganCensusModel" "s" "LOrganCensusModel$State;") (List.mem_of_getElem? (i := 3) rfl)) (fun _ h9 => h9) rfl dX6_foresee_65 ?_
      refine va_getN (D := G.1) (ci := 7) (v := .ref (ms G 0 10)) (C := RX5) (T := TX5) (N := 21) hx hb hts (fun w9 h9 => List.mem_cons_of_mem _ (List.mem_append_right _ (h9))) hown hK hP (3 + 18 * 0 + (0)) (mv_S G (z3 α (qPn (qBc α β 15) ((su γ 41 0 0 0) 42 0) nS nO nH (oN y)) (su γ 41 0 0 0)) (show 0 < 2 by decide)) rfl 12 (by decide) (va_Nw.use rfl (hN.1 (RX6, 122, RX5, "coins", "[I", RX6) (List.mem_of_getElem? (i := 16) rfl))) (fun _ h9 => h9) rfl dX6_foresee_68 ?_
      refine lv_iload_n hx hb dX6_foresee_71 rfl (lv_at hl 1 rfl) ?_
      refine o_iald (k := oN x) hx hb hK hP (3 + 18 * 0 + (10)) 0 (mv_A10 G (z3 α (qPn (qBc α β 15) ((su γ 41 0 0 0) 42 0) nS nO nH (oN y)) (su γ 41 0 0 0)) (show 0 < 2 by decide)) rfl (oIn_x c10) (by omega) (by decide) dX6_foresee_72 ?_
      refine lv_isub hx hb dX6_foresee_73 ?_
      exact o_iretM hx hb hr hlocks hS dX6_foresee_74 (by have hP9 := hP; simp (decide := true) only [cFore, mT, c10, c26, Bool.true_and, Bool.and_true, Bool.false_and, Bool.and_false, Bool.false_eq_true, if_true, if_false, reduceIte, not_true_eq_false, not_false_eq_true, and_true, and_false, true_and, false_and, Nat.reduceEqDiff, reduceCtorEq]; first | exact hP9 | (rw [su_su] at hP9; exact hP9)) (by simp (decide := true) only [cFore, mT, c10, c26, Bool.true_and, Bool.and_true, Bool.false_and, Bool.and_false, Bool.false_eq_true, if_true, if_false, reduceIte, not_true_eq_false, not_false_eq_true, and_true, and_false, true_and, false_and, Nat.reduceEqDiff, reduceCtorEq]; try rfl)
    · have c26 := bI_eq.mp c26
      refine lv_aload_n hx hb dX6_foresee_29 rfl (lv_at hl 0 rfl) ?_
      refine lv_iconst (v := 2) hx hb dX6_foresee_30 (by decide) ?_
      refine o_cVmi (q0 := 0) (ci := 8) [.int 2] [] ⟨hx, hb, hml, hown, hts⟩ (m_X6_no l G hI α β (su γ 41 0 0 0) 2) (cwV 1 hts gX6_foresee_X6_no rfl rfl rfl (by decide +kernel) ⟨Nat.le_of_ble_eq_true rfl, Nat.le_of_ble_eq_true rfl⟩) hK hN hP hS rfl rfl (mw_M G (z3 α β (su γ 41 0 0 0))) rfl hl.1 rfl (Nat.le_of_ble_eq_true rfl) dX6_foresee_31 ⟨Nat.zero_le _, Nat.zero_le _⟩ (fun H locs hP hS => ?_)
      exact o_iretM hx hb hr hlocks hS dX6_foresee_34 (by have hP9 := hP; simp (decide := true) only [cFore, mT, c10, c26, Bool.true_and, Bool.and_true, Bool.false_and, Bool.and_false, Bool.false_eq_true, if_true, if_false, reduceIte, not_true_eq_false, not_false_eq_true, and_true, and_false, true_and, false_and, Nat.reduceEqDiff, reduceCtorEq]; first | exact hP9 | (rw [su_su] at hP9; exact hP9)) (by simp (decide := true) only [cFore, mT, c10, c26, Bool.true_and, Bool.and_true, Bool.false_and, Bool.and_false, Bool.false_eq_true, if_true, if_false, reduceIte, not_true_eq_false, not_false_eq_true, and_true, and_false, true_and, false_and, Nat.reduceEqDiff, reduceCtorEq]; try rfl)
  · have c10 := bI_eq.mp c10
    refine lv_aload_n hx hb dX6_foresee_13 rfl (lv_at hl 0 rfl) ?_
    refine lv_iconst (v := 1) hx hb dX6_foresee_14 (by decide) ?_
    refine o_cVmi (q0 := 0) (ci := 8) [.int 1] [] ⟨hx, hb, hml, hown, hts⟩ (m_X6_no l G hI α β (su γ 41 0 0 0) 1) (cwV 1 hts gX6_foresee_X6_no rfl rfl rfl (by decide +kernel) ⟨Nat.le_of_ble_eq_true rfl, Nat.le_of_ble_eq_true rfl⟩) hK hN hP hS rfl rfl (mw_M G (z3 α β (su γ 41 0 0 0))) rfl hl.1 rfl (Nat.le_of_ble_eq_true rfl) dX6_foresee_15 ⟨Nat.zero_le _, Nat.zero_le _⟩ (fun H locs hP hS => ?_)
    exact o_iretM hx hb hr hlocks hS dX6_foresee_18 (by have hP9 := hP; simp (decide := true) only [cFore, mT, c10, Bool.true_and, Bool.and_true, Bool.false_and, Bool.and_false, Bool.false_eq_true, if_true, if_false, reduceIte, not_true_eq_false, not_false_eq_true, and_true, and_false, true_and, false_and, Nat.reduceEqDiff, reduceCtorEq]; first | exact hP9 | (rw [su_su] at hP9; exact hP9)) (by simp (decide := true) only [cFore, mT, c10, Bool.true_and, Bool.and_true, Bool.false_and, Bool.and_false, Bool.false_eq_true, if_true, if_false, reduceIte, not_true_eq_false, not_false_eq_true, and_true, and_false, true_and, false_and, Nat.reduceEqDiff, reduceCtorEq]; try rfl)
set_option maxHeartbeats 4000000 in
set_option maxRecDepth 100000 in
theorem m_X6_byteAt (l : Launch) (G : oG) (hI : wl_I G.2.1 39) (α β γ : oT) (nS : Nat) (nO : Nat) (nH : Nat) (hz : qOK α nS nO nH) (nP : Nat) (hp1 : γ 41 0 1 = nI nP) (hp2 : nP ≤ 1000) (x : Int32) : Met l yX6_byteAt wsX6_byteAt ({ frames := 1, cells := 0, slots := 0, locals := 22 } : Room) (va_Pc [.ref (G.2.1 0), .int x] (PW G (mw G (z3 α β γ)))) (oQ (some (.int (if cByte nP x = 0 then γ 43 0 (oN x) else 0))) (fun H9 => va_P G.1 vwCl (mw G (z3 α β (mT γ (cByte nP x)))) H9) (mA G)) 0 0 (mA G) := by
  refine o_body (cc := cX6_byteAt) (by decide +kernel) rfl (Nat.le_of_ble_eq_true rfl) ?_
  intro p e s m below meth c ls hx hb hml hr hlocks hown hts hP hK hN hl
  have hown : s.vm.findClass RX6 = some m.cls := hown
  have hl : lv_has ls 2 [(0, .ref (G.2.1 0)), (1, .int x)] := hl
  have hS : va_S (mA G) s.heap s.heap [] := va_S.rf
  obtain ⟨hz1, hz2, hz3, hz4, hz5, hz6, hz7, hz8⟩ := id hz
  refine lv_aload_n hx hb dX6_byteAt_0 rfl (lv_at hl 0 rfl) ?_
  refine lv_iconst (v := 0) hx hb dX6_byteAt_1 (by decide) ?_
  refine va_put (D := G.1) (ci := 8) (v := .int 0) (ty := .int) (C := RX6) (T := TX6) (N := 6) hx hb hts (fun w9 h9 => List.mem_cons_of_mem _ (List.mem_append_right _ (h9))) tyX6 tyX6_ok nmX6 hown hK hP (mw_D G _ hI) hS (0) (mw_M G (z3 α β γ)) rfl 0 (by decide) (hts (.fieldLink RX6 28 "OrganCensusModel" "thrown" "I") (List.mem_of_getElem? (i := 1) rfl)) (fun _ h9 => h9) rfl (by decide +kernel) rfl rfl (Nat.le_of_ble_eq_true rfl) dX6_byteAt_2 (fun H locs hP hD hS => ?_)
  have hP : va_P G.1 vwCl (mw G (z3 α β (su γ 41 0 0 0))) H := by rw [← (mw_zP (a := α) (b := β) (c := γ) (τ' := su γ 41 0 0 0) (mw_uM0 G (z3 α β γ) 0))]; exact hP
  clear hD
  refine lv_iload_n hx hb dX6_byteAt_5 rfl (lv_at hl 1 rfl) ?_
  refine lv_iconst (v := 0) hx hb dX6_byteAt_6 (by decide) ?_
  refine lv_aload_n hx hb dX6_byteAt_7 rfl (lv_at hl 0 rfl) ?_
  refine va_get (D := G.1) (ci := 8) (v := .int ((su γ 41 0 0 0) 41 0 1)) (C := RX6) (T := TX6) (N := 6) hx hb hts (fun w9 h9 => List.mem_cons_of_mem _ (List.mem_append_right _ (h9))) hown hK hP (0) (mw_M G (z3 α β (su γ 41 0 0 0))) rfl 3 (by decide) (hts (.fieldLink RX6 148 "OrganCensusModel" "papered" "I") (List.mem_of_getElem? (i := 2) rfl)) (fun _ h9 => h9) rfl dX6_byteAt_8 ?_
  refine lv_iconst (v := 1) hx hb dX6_byteAt_11 (by decide) ?_
  refine lv_isub hx hb dX6_byteAt_12 ?_
  refine o_cSi [.int x, .int 0, .int (((su γ 41 0 0 0) 41 0 1) - 1)] [] ⟨hx, hb, hml, hown, hts⟩ (m_X6_isIn l G (mw G (z3 α β (su γ 41 0 0 0))) x 0 (((su γ 41 0 0 0) 41 0 1) - 1)) (va_cwS 3 hts gX6_byteAt_X6_isIn rfl rfl rfl (by decide +kernel) ⟨Nat.le_of_ble_eq_true rfl, Nat.le_of_ble_eq_true rfl⟩) hK hN hP rfl hl.1 rfl (Nat.le_of_ble_eq_true rfl) dX6_byteAt_13 ⟨Nat.zero_le _, Nat.zero_le _⟩ ?_
  rw [show oRg x 0 ((su γ 41 0 0 0) 41 0 1 - 1) = oIn x nP from by rw [show (su γ 41 0 0 0) 41 0 1 = nI nP from hp1]; exact oRg_p x (by omega)]
  refine lv_if_eq (tgt := 28) hx hb dX6_byteAt_16 (by decide) (fun c16 => ?_) (fun c16 => ?_)
  · have c16 := bI_eq.mp c16
    refine lv_aload_n hx hb dX6_byteAt_28 rfl (lv_at hl 0 rfl) ?_
    refine lv_iconst (v := 1) hx hb dX6_byteAt_29 (by decide) ?_
    refine o_cVmi (q0 := 0) (ci := 8) [.int 1] [] ⟨hx, hb, hml, hown, hts⟩ (m_X6_no l G hI α β (su γ 41 0 0 0) 1) (cwV 1 hts gX6_byteAt_X6_no rfl rfl rfl (by decide +kernel) ⟨Nat.le_of_ble_eq_true rfl, Nat.le_of_ble_eq_true rfl⟩) hK hN hP hS rfl rfl (mw_M G (z3 α β (su γ 41 0 0 0))) rfl hl.1 rfl (Nat.le_of_ble_eq_true rfl) dX6_byteAt_30 ⟨Nat.zero_le _, Nat.zero_le _⟩ (fun H locs hP hS => ?_)
    exact o_iretM hx hb hr hlocks hS dX6_byteAt_33 (by have hP9 := hP; simp (decide := true) only [cByte, mT, c16, Bool.true_and, Bool.and_true, Bool.false_and, Bool.and_false, Bool.false_eq_true, if_true, if_false, reduceIte, not_true_eq_false, not_false_eq_true, and_true, and_false, true_and, false_and, Nat.reduceEqDiff, reduceCtorEq]; first | exact hP9 | (rw [su_su] at hP9; exact hP9)) (by simp (decide := true) only [cByte, mT, c16, Bool.true_and, Bool.and_true, Bool.false_and, Bool.and_false, Bool.false_eq_true, if_true, if_false, reduceIte, not_true_eq_false, not_false_eq_true, and_true, and_false, true_and, false_and, Nat.reduceEqDiff, reduceCtorEq]; try rfl)
  · have c16 := bI_ne.mp c16
    have n16 := oIn_lt (by omega) c16
    refine lv_aload_n hx hb dX6_byteAt_19 rfl (lv_at hl 0 rfl) ?_
    refine va_get (D := G.1) (ci := 8) (v := .ref (G.2.1 2)) (C := RX6) (T := TX6) (N := 6) hx hb hts (fun w9 h9 => List.mem_cons_of_mem _ (List.mem_append_right _ (h9))) hown hK hP (0) (mw_M G (z3 α β (su γ 41 0 0 0))) rfl 2 (by decide) (hts (.fieldLink RX6 13 "OrganCensusModel" "paper" "[I") (List.mem_of_getElem? (i := 3) rfl)) (fun _ h9 => h9) rfl dX6_byteAt_20 ?_
    refine lv_iload_n hx hb dX6_byteAt_23 rfl (lv_at hl 1 rfl) ?_
    refine o_iald (k := oN x) hx hb hK hP (2) 0 (mw_MW G (z3 α β (su γ 41 0 0 0))) rfl (oIn_x c16) (by omega) (by decide) dX6_byteAt_24 ?_
    refine lv_goto (tgt := 33) hx hb dX6_byteAt_25 (by decide) ?_
    exact o_iretM hx hb hr hlocks hS dX6_byteAt_33 (by have hP9 := hP; simp (decide := true) only [cByte, mT, c16, Bool.true_and, Bool.and_true, Bool.false_and, Bool.and_false, Bool.false_eq_true, if_true, if_false, reduceIte, not_true_eq_false, not_false_eq_true, and_true, and_false, true_and, false_and, Nat.reduceEqDiff, reduceCtorEq]; first | exact hP9 | (rw [su_su] at hP9; exact hP9)) (by simp (decide := true) only [cByte, mT, c16, Bool.true_and, Bool.and_true, Bool.false_and, Bool.and_false, Bool.false_eq_true, if_true, if_false, reduceIte, not_true_eq_false, not_false_eq_true, and_true, and_false, true_and, false_and, Nat.reduceEqDiff, reduceCtorEq]; try rfl)
