set_option maxHeartbeats 4000000 in
set_option maxRecDepth 100000 in
theorem m_J9_floorMod_7cf53 (l : Launch) (G : oG) (wd : va_W) (x : Int32) (y : Int32) (hy : ¬ y = 0) : Met l yJ9_floorMod_7cf53 wsJ9_floorMod_7cf53 ({ frames := 0, cells := 0, slots := 0, locals := 0 } : Room) (va_Pc [.int x, .int y] (PW G wd)) (oR (some (.int (o_fm x y)))) 0 0 (fun _ => False) := by
  refine o_bodyF (cc := cJ9_floorMod_7cf53) (by decide +kernel) rfl (Nat.le_of_ble_eq_true rfl) ?_
  intro p e s m below meth c ls hx hb hml hr hlocks hown hts hP hK hN hl
  have hown : s.vm.findClass RJ9 = some m.cls := hown
  have hl : lv_has ls 3 [(0, .int x), (1, .int y)] := hl
  have hlt : ∀ z : Int32, 0 ≤ z → (z < 0) = False := fun z h => by simp [Int32.not_lt.mpr h]
  refine lv_iload_n hx hb dJ9_floorMod_7cf53_0 rfl (lv_at hl 0 rfl) ?_
  refine lv_iload_n hx hb dJ9_floorMod_7cf53_1 rfl (lv_at hl 1 rfl) ?_
  refine o_irem hx hb dJ9_floorMod_7cf53_2 hy ?_
  refine lv_istore_n (lv' := [(2, .int (o_rem x y)), (0, .int x), (1, .int y)]) hx hb dJ9_floorMod_7cf53_3 rfl hl (by decide) rfl (fun ls hl => ?_)
  refine lv_iload_n hx hb dJ9_floorMod_7cf53_4 rfl (lv_at hl 1 rfl) ?_
  refine lv_iload_n hx hb dJ9_floorMod_7cf53_5 rfl (lv_at hl 2 rfl) ?_
  refine lv_ixor hx hb dJ9_floorMod_7cf53_6 ?_
  refine lv_if_ge (tgt := 18) hx hb dJ9_floorMod_7cf53_7 (by decide) (fun c7 => ?_) (fun c7 => ?_)
  · refine lv_iload_n hx hb dJ9_floorMod_7cf53_18 rfl (lv_at hl 0 rfl) ?_
    exact o_iretR hx hb hr hlocks dJ9_floorMod_7cf53_19 (by simp [o_fm, hlt, c7])
  · refine lv_iload_n hx hb dJ9_floorMod_7cf53_10 rfl (lv_at hl 0 rfl) ?_
    refine lv_if_eq (tgt := 18) hx hb dJ9_floorMod_7cf53_11 (by decide) (fun c11 => ?_) (fun c11 => ?_)
    · refine lv_iload_n hx hb dJ9_floorMod_7cf53_18 rfl (lv_at hl 0 rfl) ?_
      exact o_iretR hx hb hr hlocks dJ9_floorMod_7cf53_19 (by simp [o_fm, hlt, c7, c11])
    · refine lv_iload_n hx hb dJ9_floorMod_7cf53_14 rfl (lv_at hl 0 rfl) ?_
      refine lv_iload_n hx hb dJ9_floorMod_7cf53_15 rfl (lv_at hl 2 rfl) ?_
      refine lv_iadd hx hb dJ9_floorMod_7cf53_16 ?_
      exact o_iretR hx hb hr hlocks dJ9_floorMod_7cf53_17 (by simp [o_fm, hlt, c7, c11])
set_option maxHeartbeats 4000000 in
set_option maxRecDepth 100000 in
theorem m_X3_standingIn (l : Launch) (G : oG) (Z : oZ) {t : Nat} (ht : t < 2) (τ : oT) (nS : Nat) (nO : Nat) (nH : Nat) (hz : oOK τ nS nO nH) (x : Int32) : Met l yX3_standingIn wsX3_standingIn ({ frames := 1, cells := 0, slots := 0, locals := 21 } : Room) (va_Pc [.ref (ta G t (0)), .int x] (PW G (tw G Z t τ))) (oR (some (.int (oStandN τ x nO)))) 0 0 (fun _ => False) := by
  refine o_body (cc := cX3_standingIn) (by decide +kernel) rfl (Nat.le_of_ble_eq_true rfl) ?_
  intro p e s m below meth c ls hx hb hml hr hlocks hown hts hP hK hN hl
  have hown : s.vm.findClass RX3 = some m.cls := hown
  have hl : lv_has ls 4 [(0, .ref (ta G t (0))), (1, .int x)] := hl
  obtain ⟨hz1, hz2, hz3, hz4, hz5, hz6, hz7⟩ := id hz
  refine lv_iconst (v := 0) hx hb dX3_standingIn_0 (by decide) ?_
  refine lv_istore_n (lv' := [(2, .int 0), (0, .ref (ta G t (0))), (1, .int x)]) hx hb dX3_standingIn_1 rfl hl (by decide) rfl (fun ls hl => ?_)
  refine lv_iconst (v := 0) hx hb dX3_standingIn_2 (by decide) ?_
  refine lv_istore_n (lv' := [(3, .int 0), (2, .int 0), (0, .ref (ta G t (0))), (1, .int x)]) hx hb dX3_standingIn_3 rfl hl (by decide) rfl (fun ls hl => ?_)
  have lp4 : ∀ (d4 k : Nat), k + d4 = nO → ∀ x4_2 : Int32, x4_2 = (oStandN τ x k) → ∀ x4_3 : Int32, x4_3 = (nI k) → ∀ ls : Array Slot, lv_has ls 4 [(0, .ref (ta G t (0))), (1, .int x), (2, .int x4_2), (3, .int x4_3)] → W p l e ({ frames := 1, cells := 0, slots := 0, locals := 21 } : Room) s m ([.ref (ta G t (0)), .int x] : List Value).toArray below meth c s.heap [] 0 0 (MQ below (oR (some (.int (oStandN τ x nO)))) ([.ref (ta G t (0)), .int x] : List Value).toArray s 0 0 (fun _ => False)) (F0 m 4 ls []) := by
    intro d4
    induction d4 with
    | zero =>
      intro k hk4 x4_2 e4_2 x4_3 e4_3 ls hl
      subst e4_2
      subst e4_3
      have hk4 : k = nO := by omega
      refine lv_iload_n hx hb dX3_standingIn_4 rfl (lv_at hl 3 rfl) ?_
      refine lv_aload_n hx hb dX3_standingIn_5 rfl (lv_at hl 0 rfl) ?_
      refine va_get (D := G.1) (ci := 5) (v := .int (τ 18 0 1)) (C := RX3) (T := TX3) (N := 5) hx hb hts (fun w9 h9 => List.mem_cons_of_mem _ (List.mem_append_left _ (List.mem_append_right _ (h9)))) hown hK hP (1 + 67 * t + (0)) (tw_T G Z ht τ) rfl 3 (by decide) (hts (.fieldLink RX3 29 "OrganCensus$Town" "organCount" "I") (List.mem_of_getElem? (i := 1) rfl)) (fun _ h9 => h9) rfl dX3_standingIn_6 ?_
      refine lv_icmp_ge (tgt := 34) hx hb dX3_standingIn_9 (by decide) (fun c9 => ?_) (fun c9 => ?_)
      · have n9 := (o_nle (a := nO) (b := k) hz.2.2.1 rfl (by omega) (by omega)).mp c9
        refine lv_iload_n hx hb dX3_standingIn_34 rfl (lv_at hl 2 rfl) ?_
        exact o_iretR hx hb hr hlocks dX3_standingIn_35 (by rw [hk4])
      · have n9 := (mt (o_nle (a := nO) (b := k) hz.2.2.1 rfl (by omega) (by omega)).mpr) c9; omega
    | succ d4 ih4 =>
      intro k hk4 x4_2 e4_2 x4_3 e4_3 ls hl
      subst e4_2
      subst e4_3
      have hj4 : k < nO := by omega
      refine lv_iload_n hx hb dX3_standingIn_4 rfl (lv_at hl 3 rfl) ?_
      refine lv_aload_n hx hb dX3_standingIn_5 rfl (lv_at hl 0 rfl) ?_
      refine va_get (D := G.1) (ci := 5) (v := .int (τ 18 0 1)) (C := RX3) (T := TX3) (N := 5) hx hb hts (fun w9 h9 => List.mem_cons_of_mem _ (List.mem_append_left _ (List.mem_append_right _ (h9)))) hown hK hP (1 + 67 * t + (0)) (tw_T G Z ht τ) rfl 3 (by decide) (hts (.fieldLink RX3 29 "OrganCensus$Town" "organCount" "I") (List.mem_of_getElem? (i := 1) rfl)) (fun _ h9 => h9) rfl dX3_standingIn_6 ?_
      refine lv_icmp_ge (tgt := 34) hx hb dX3_standingIn_9 (by decide) (fun c9 => ?_) (fun c9 => ?_)
      · have n9 := (o_nle (a := nO) (b := k) hz.2.2.1 rfl (by omega) (by omega)).mp c9; omega
      · have n9 := (mt (o_nle (a := nO) (b := k) hz.2.2.1 rfl (by omega) (by omega)).mpr) c9
        refine lv_aload_n hx hb dX3_standingIn_12 rfl (lv_at hl 0 rfl) ?_
        refine va_get (D := G.1) (ci := 5) (v := .ref (ta G t (2))) (C := RX3) (T := TX3) (N := 5) hx hb hts (fun w9 h9 => List.mem_cons_of_mem _ (List.mem_append_left _ (List.mem_append_right _ (h9)))) hown hK hP (1 + 67 * t + (0)) (tw_T G Z ht τ) rfl 1 (by decide) (hts (.fieldLink RX3 19 "OrganCensus$Town" "organs" "[LOrganCensus$Organ;") (List.mem_of_getElem? (i := 2) rfl)) (fun _ h9 => h9) rfl dX3_standingIn_13 ?_
        refine lv_iload_n hx hb dX3_standingIn_16 rfl (lv_at hl 3 rfl) ?_
        refine o_aald (k := k) (C := RX0) hx hb hK hP (1 + 67 * t + (2)) 2 (tw_OA G Z ht τ) rfl rfl (by omega) (by decide) rfl dX3_standingIn_17 ?_
        refine lv_iload_n hx hb dX3_standingIn_18 rfl (lv_at hl 1 rfl) ?_
        refine o_cVi (q0 := 1 + 67 * t + (27 + 5 * k)) (ci := 2) [.int x] [] ⟨hx, hb, hml, hown, hts⟩ (m_X0_standsIn l G Z ht τ k (by omega) x) (cwV 1 hts gX3_standingIn_X0_standsIn rfl rfl rfl (by decide +kernel) ⟨Nat.le_of_ble_eq_true rfl, Nat.le_of_ble_eq_true rfl⟩) hK hN hP rfl rfl (tw_O G Z ht τ (by omega)) rfl hl.1 rfl (Nat.le_of_ble_eq_true rfl) dX3_standingIn_19 ⟨Nat.zero_le _, Nat.zero_le _⟩ ?_
        refine lv_if_eq (tgt := 28) hx hb dX3_standingIn_22 (by decide) (fun c22 => ?_) (fun c22 => ?_)
        · have c22 := bI_eq.mp c22
          refine lv_iinc (v := nI (k + 1)) (lv' := [(3, .int (nI (k + 1))), (0, .ref (ta G t (0))), (1, .int x), (2, .int (oStandN τ x k))]) hx hb dX3_standingIn_28 hl (k := 3) rfl (nI_1 k) (by decide) rfl (fun ls hl => ?_)
          refine lv_goto (tgt := 4) hx hb dX3_standingIn_31 (by decide) ?_
          exact ih4 (k + 1) (by omega) _ (by simp [oStandN, c9, c22]) _ (rfl) ls (lv_sub hl [1, 2, 3, 0] rfl)
        · have c22 := bI_ne.mp c22
          refine lv_iinc (v := (oStandN τ x k) + 1) (lv' := [(2, .int ((oStandN τ x k) + 1)), (0, .ref (ta G t (0))), (1, .int x), (3, .int (nI k))]) hx hb dX3_standingIn_25 hl (k := 2) rfl rfl (by decide) rfl (fun ls hl => ?_)
          refine lv_iinc (v := nI (k + 1)) (lv' := [(3, .int (nI (k + 1))), (2, .int ((oStandN τ x k) + 1)), (0, .ref (ta G t (0))), (1, .int x)]) hx hb dX3_standingIn_28 hl (k := 3) rfl (nI_1 k) (by decide) rfl (fun ls hl => ?_)
          refine lv_goto (tgt := 4) hx hb dX3_standingIn_31 (by decide) ?_
          exact ih4 (k + 1) (by omega) _ (by simp [oStandN, c9, c22]) _ (rfl) ls (lv_sub hl [2, 3, 1, 0] rfl)
  exact lp4 (nO) 0 (by omega) _ (rfl) _ (rfl) ls (lv_sub hl [2, 3, 1, 0] rfl)
set_option maxHeartbeats 4000000 in
set_option maxRecDepth 100000 in
theorem m_X3_whoIsHeard (l : Launch) (G : oG) (Z : oZ) {t : Nat} (ht : t < 2) (τ : oT) (nS : Nat) (nO : Nat) (nH : Nat) (hz : oOK τ nS nO nH) (x : Int32) (y : Int32) : Met l yX3_whoIsHeard wsX3_whoIsHeard ({ frames := 2, cells := 0, slots := 0, locals := 43 } : Room) (va_Pc [.ref (ta G t (0)), .int x, .int y] (PW G (tw G Z t τ))) (oR (some (.int (oHeard τ nO x y)))) 0 0 (fun _ => False) := by
  refine o_body (cc := cX3_whoIsHeard) (by decide +kernel) rfl (Nat.le_of_ble_eq_true rfl) ?_
  intro p e s m below meth c ls hx hb hml hr hlocks hown hts hP hK hN hl
  have hown : s.vm.findClass RX3 = some m.cls := hown
  have hl : lv_has ls 8 [(0, .ref (ta G t (0))), (1, .int x), (2, .int y)] := hl
  obtain ⟨hz1, hz2, hz3, hz4, hz5, hz6, hz7⟩ := id hz
  refine lv_iconst (v := (-1)) hx hb dX3_whoIsHeard_0 (by decide) ?_
  refine lv_istore_n (lv' := [(3, .int ((-1))), (0, .ref (ta G t (0))), (1, .int x), (2, .int y)]) hx hb dX3_whoIsHeard_1 rfl hl (by decide) rfl (fun ls hl => ?_)
  refine lv_iconst (v := 0) hx hb dX3_whoIsHeard_2 (by decide) ?_
  refine lv_istore (lv' := [(4, .int 0), (3, .int ((-1))), (0, .ref (ta G t (0))), (1, .int x), (2, .int y)]) hx hb dX3_whoIsHeard_3 hl (by decide) rfl (fun ls hl => ?_)
  refine lv_iconst (v := 0) hx hb dX3_whoIsHeard_5 (by decide) ?_
  refine lv_istore (lv' := [(5, .int 0), (4, .int 0), (3, .int ((-1))), (0, .ref (ta G t (0))), (1, .int x), (2, .int y)]) hx hb dX3_whoIsHeard_6 hl (by decide) rfl (fun ls hl => ?_)
  refine lv_iconst (v := 0) hx hb dX3_whoIsHeard_8 (by decide) ?_
  refine lv_istore (lv' := [(6, .int 0), (5, .int 0), (4, .int 0), (3, .int ((-1))), (0, .ref (ta G t (0))), (1, .int x), (2, .int y)]) hx hb dX3_whoIsHeard_9 hl (by decide) rfl (fun ls hl => ?_)
  have lp11 : ∀ (d11 k : Nat), k + d11 = nO → ∀ x11_3 : Int32, x11_3 = ((oWh τ x y k).1) → ∀ x11_4 : Int32, x11_4 = ((oWh τ x y k).2.1) → ∀ x11_5 : Int32, x11_5 = ((oWh τ x y k).2.2) → ∀ x11_6 : Int32, x11_6 = (nI k) → ∀ ls : Array Slot, lv_has ls 8 [(0, .ref (ta G t (0))), (1, .int x), (2, .int y), (3, .int x11_3), (4, .int x11_4), (5, .int x11_5), (6, .int x11_6)] → W p l e ({ frames := 2, cells := 0, slots := 0, locals := 43 } : Room) s m ([.ref (ta G t (0)), .int x, .int y] : List Value).toArray below meth c s.heap [] 0 0 (MQ below (oR (some (.int (oHeard τ nO x y)))) ([.ref (ta G t (0)), .int x, .int y] : List Value).toArray s 0 0 (fun _ => False)) (F0 m 11 ls []) := by
    intro d11
    induction d11 with
    | zero =>
      intro k hk11 x11_3 e11_3 x11_4 e11_4 x11_5 e11_5 x11_6 e11_6 ls hl
      subst e11_3
      subst e11_4
      subst e11_5
      subst e11_6
      have hk11 : k = nO := by omega
      refine lv_iload hx hb dX3_whoIsHeard_11 (lv_at hl 6 rfl) ?_
      refine lv_aload_n hx hb dX3_whoIsHeard_13 rfl (lv_at hl 0 rfl) ?_
      refine va_get (D := G.1) (ci := 5) (v := .int (τ 18 0 1)) (C := RX3) (T := TX3) (N := 5) hx hb hts (fun w9 h9 => List.mem_cons_of_mem _ (List.mem_append_left _ (List.mem_append_right _ (h9)))) hown hK hP (1 + 67 * t + (0)) (tw_T G Z ht τ) rfl 3 (by decide) (hts (.fieldLink RX3 29 "OrganCensus$Town" "organCount" "I") (List.mem_of_getElem? (i := 1) rfl)) (fun _ h9 => h9) rfl dX3_whoIsHeard_14 ?_
      refine lv_icmp_ge (tgt := 72) hx hb dX3_whoIsHeard_17 (by decide) (fun c17 => ?_) (fun c17 => ?_)
      · have n17 := (o_nle (a := nO) (b := k) hz.2.2.1 rfl (by omega) (by omega)).mp c17
        refine lv_iload hx hb dX3_whoIsHeard_72 (lv_at hl 5 rfl) ?_
        refine lv_if_le (tgt := 91) hx hb dX3_whoIsHeard_74 (by decide) (fun c74 => ?_) (fun c74 => ?_)
        · refine lv_iload_n hx hb dX3_whoIsHeard_91 rfl (lv_at hl 3 rfl) ?_
          exact o_iretR hx hb hr hlocks dX3_whoIsHeard_92 (by subst hk11; simp [oHeard, c17, c74])
        · refine lv_iload hx hb dX3_whoIsHeard_77 (lv_at hl 5 rfl) ?_
          refine lv_iload hx hb dX3_whoIsHeard_79 (lv_at hl 4 rfl) ?_
          refine lv_iconst (v := 1) hx hb dX3_whoIsHeard_81 (by decide) ?_
          refine lv_isub hx hb dX3_whoIsHeard_82 ?_
          refine lv_icmp_lt (tgt := 91) hx hb dX3_whoIsHeard_83 (by decide) (fun c83 => ?_) (fun c83 => ?_)
          · refine lv_iload_n hx hb dX3_whoIsHeard_91 rfl (lv_at hl 3 rfl) ?_
            exact o_iretR hx hb hr hlocks dX3_whoIsHeard_92 (by subst hk11; simp [oHeard, c17, c74, c83])
          · refine lv_bipush (v := (-2)) hx hb dX3_whoIsHeard_86 (by decide) ?_
            refine lv_goto (tgt := 92) hx hb dX3_whoIsHeard_88 (by decide) ?_
            exact o_iretR hx hb hr hlocks dX3_whoIsHeard_92 (by subst hk11; simp [oHeard, c17, c74, c83])
      · have n17 := (mt (o_nle (a := nO) (b := k) hz.2.2.1 rfl (by omega) (by omega)).mpr) c17; omega
    | succ d11 ih11 =>
      intro k hk11 x11_3 e11_3 x11_4 e11_4 x11_5 e11_5 x11_6 e11_6 ls hl
      subst e11_3
      subst e11_4
      subst e11_5
      subst e11_6
      have hj11 : k < nO := by omega
      refine lv_iload hx hb dX3_whoIsHeard_11 (lv_at hl 6 rfl) ?_
      refine lv_aload_n hx hb dX3_whoIsHeard_13 rfl (lv_at hl 0 rfl) ?_
      refine va_get (D := G.1) (ci := 5) (v := .int (τ 18 0 1)) (C := RX3) (T := TX3) (N := 5) hx hb hts (fun w9 h9 => List.mem_cons_of_mem _ (List.mem_append_left _ (List.mem_append_right _ (h9)))) hown hK hP (1 + 67 * t + (0)) (tw_T G Z ht τ) rfl 3 (by decide) (hts (.fieldLink RX3 29 "OrganCensus$Town" "organCount" "I") (List.mem_of_getElem? (i := 1) rfl)) (fun _ h9 => h9) rfl dX3_whoIsHeard_14 ?_
      refine lv_icmp_ge (tgt := 72) hx hb dX3_whoIsHeard_17 (by decide) (fun c17 => ?_) (fun c17 => ?_)
      · have n17 := (o_nle (a := nO) (b := k) hz.2.2.1 rfl (by omega) (by omega)).mp c17; omega
      · have n17 := (mt (o_nle (a := nO) (b := k) hz.2.2.1 rfl (by omega) (by omega)).mpr) c17
        refine lv_aload_n hx hb dX3_whoIsHeard_20 rfl (lv_at hl 0 rfl) ?_
        refine va_get (D := G.1) (ci := 5) (v := .ref (ta G t (2))) (C := RX3) (T := TX3) (N := 5) hx hb hts (fun w9 h9 => List.mem_cons_of_mem _ (List.mem_append_left _ (List.mem_append_right _ (h9)))) hown hK hP (1 + 67 * t + (0)) (tw_T G Z ht τ) rfl 1 (by decide) (hts (.fieldLink RX3 19 "OrganCensus$Town" "organs" "[LOrganCensus$Organ;") (List.mem_of_getElem? (i := 2) rfl)) (fun _ h9 => h9) rfl dX3_whoIsHeard_21 ?_
        refine lv_iload hx hb dX3_whoIsHeard_24 (lv_at hl 6 rfl) ?_
        refine o_aald (k := k) (C := RX0) hx hb hK hP (1 + 67 * t + (2)) 2 (tw_OA G Z ht τ) rfl rfl (by omega) (by decide) rfl dX3_whoIsHeard_26 ?_
        refine lv_iload_n hx hb dX3_whoIsHeard_27 rfl (lv_at hl 1 rfl) ?_
        refine lv_iload_n hx hb dX3_whoIsHeard_28 rfl (lv_at hl 2 rfl) ?_
        refine o_cVi (q0 := 1 + 67 * t + (27 + 5 * k)) (ci := 2) [.int x, .int y] [] ⟨hx, hb, hml, hown, hts⟩ (m_X0_soundAt l G Z ht τ k (by omega) x y) (cwV 2 hts gX3_whoIsHeard_X0_soundAt rfl rfl rfl (by decide +kernel) ⟨Nat.le_of_ble_eq_true rfl, Nat.le_of_ble_eq_true rfl⟩) hK hN hP rfl rfl (tw_O G Z ht τ (by omega)) rfl hl.1 rfl (Nat.le_of_ble_eq_true rfl) dX3_whoIsHeard_29 ⟨Nat.zero_le _, Nat.zero_le _⟩ ?_
        refine lv_istore (lv' := [(7, .int (oSnd τ k x y)), (0, .ref (ta G t (0))), (1, .int x), (2, .int y), (3, .int ((oWh τ x y k).1)), (4, .int ((oWh τ x y k).2.1)), (5, .int ((oWh τ x y k).2.2)), (6, .int (nI k))]) hx hb dX3_whoIsHeard_32 hl (by decide) rfl (fun ls hl => ?_)
        refine lv_iload hx hb dX3_whoIsHeard_34 (lv_at hl 0 rfl) ?_
        refine lv_iload hx hb dX3_whoIsHeard_36 (lv_at hl 5 rfl) ?_
        refine lv_icmp_le (tgt := 55) hx hb dX3_whoIsHeard_38 (by decide) (fun c38 => ?_) (fun c38 => ?_)
        · refine lv_iload hx hb dX3_whoIsHeard_55 (lv_at hl 0 rfl) ?_
          refine lv_iload hx hb dX3_whoIsHeard_57 (lv_at hl 6 rfl) ?_
          refine lv_icmp_le (tgt := 66) hx hb dX3_whoIsHeard_59 (by decide) (fun c59 => ?_) (fun c59 => ?_)
          · refine lv_iinc (v := nI (k + 1)) (lv' := [(6, .int (nI (k + 1))), (7, .int (oSnd τ k x y)), (0, .ref (ta G t (0))), (1, .int x), (2, .int y), (3, .int ((oWh τ x y k).1)), (4, .int ((oWh τ x y k).2.1)), (5, .int ((oWh τ x y k).2.2))]) hx hb dX3_whoIsHeard_66 hl (k := 7) rfl (nI_1 k) (by decide) rfl (fun ls hl => ?_)
            refine lv_goto (tgt := 11) hx hb dX3_whoIsHeard_69 (by decide) ?_
            exact ih11 (k + 1) (by omega) _ (by simp [oWh, c17, c38, c59]) _ (by simp [oWh, c17, c38, c59]) _ (by simp [oWh, c17, c38, c59]) _ (rfl) ls (lv_sub hl [2, 3, 4, 5, 6, 7, 0] rfl)
          · refine lv_iload hx hb dX3_whoIsHeard_62 (lv_at hl 0 rfl) ?_
            refine lv_istore (lv' := [(5, .int (oSnd τ k x y)), (7, .int (oSnd τ k x y)), (0, .ref (ta G t (0))), (1, .int x), (2, .int y), (3, .int ((oWh τ x y k).1)), (4, .int ((oWh τ x y k).2.1)), (6, .int (nI k))]) hx hb dX3_whoIsHeard_64 hl (by decide) rfl (fun ls hl => ?_)
            refine lv_iinc (v := nI (k + 1)) (lv' := [(6, .int (nI (k + 1))), (5, .int (oSnd τ k x y)), (7, .int (oSnd τ k x y)), (0, .ref (ta G t (0))), (1, .int x), (2, .int y), (3, .int ((oWh τ x y k).1)), (4, .int ((oWh τ x y k).2.1))]) hx hb dX3_whoIsHeard_66 hl (k := 7) rfl (nI_1 k) (by decide) rfl (fun ls hl => ?_)
            refine lv_goto (tgt := 11) hx hb dX3_whoIsHeard_69 (by decide) ?_
            exact ih11 (k + 1) (by omega) _ (by simp [oWh, c17, c38, c59]) _ (by simp [oWh, c17, c38, c59]) _ (by simp [oWh, c17, c38, c59]) _ (rfl) ls (lv_sub hl [3, 4, 5, 6, 7, 1, 0] rfl)
        · refine lv_iload hx hb dX3_whoIsHeard_41 (lv_at hl 5 rfl) ?_
          refine lv_istore (lv' := [(5, .int ((oWh τ x y k).2.1)), (7, .int (oSnd τ k x y)), (0, .ref (ta G t (0))), (1, .int x), (2, .int y), (3, .int ((oWh τ x y k).1)), (4, .int ((oWh τ x y k).2.1)), (6, .int (nI k))]) hx hb dX3_whoIsHeard_43 hl (by decide) rfl (fun ls hl => ?_)
          refine lv_iload hx hb dX3_whoIsHeard_45 (lv_at hl 1 rfl) ?_
          refine lv_istore (lv' := [(4, .int (oSnd τ k x y)), (5, .int ((oWh τ x y k).2.1)), (7, .int (oSnd τ k x y)), (0, .ref (ta G t (0))), (1, .int x), (2, .int y), (3, .int ((oWh τ x y k).1)), (6, .int (nI k))]) hx hb dX3_whoIsHeard_47 hl (by decide) rfl (fun ls hl => ?_)
          refine lv_iload hx hb dX3_whoIsHeard_49 (lv_at hl 7 rfl) ?_
          refine lv_istore_n (lv' := [(3, .int (nI k)), (4, .int (oSnd τ k x y)), (5, .int ((oWh τ x y k).2.1)), (7, .int (oSnd τ k x y)), (0, .ref (ta G t (0))), (1, .int x), (2, .int y), (6, .int (nI k))]) hx hb dX3_whoIsHeard_51 rfl hl (by decide) rfl (fun ls hl => ?_)
          refine lv_goto (tgt := 66) hx hb dX3_whoIsHeard_52 (by decide) ?_
          refine lv_iinc (v := nI (k + 1)) (lv' := [(6, .int (nI (k + 1))), (3, .int (nI k)), (4, .int (oSnd τ k x y)), (5, .int ((oWh τ x y k).2.1)), (7, .int (oSnd τ k x y)), (0, .ref (ta G t (0))), (1, .int x), (2, .int y)]) hx hb dX3_whoIsHeard_66 hl (k := 7) rfl (nI_1 k) (by decide) rfl (fun ls hl => ?_)
          refine lv_goto (tgt := 11) hx hb dX3_whoIsHeard_69 (by decide) ?_
          exact ih11 (k + 1) (by omega) _ (by simp [oWh, c17, c38]) _ (by simp [oWh, c17, c38]) _ (by simp [oWh, c17, c38]) _ (rfl) ls (lv_sub hl [5, 6, 7, 1, 2, 3, 0] rfl)
  exact lp11 (nO) 0 (by omega) _ (rfl) _ (rfl) _ (rfl) _ (rfl) ls (lv_sub hl [4, 5, 6, 3, 2, 1, 0] rfl)
set_option maxHeartbeats 4000000 in
set_option maxRecDepth 100000 in
theorem m_X3_complaintsIn (l : Launch) (G : oG) (Z : oZ) {t : Nat} (ht : t < 2) (τ : oT) (nS : Nat) (nO : Nat) (nH : Nat) (hz : oOK τ nS nO nH) (r : Nat) (ar : Int32) (er : ar = nI r) (hr6 : r < 6) : Met l yX3_complaintsIn wsX3_complaintsIn ({ frames := 0, cells := 0, slots := 0, locals := 0 } : Room) (va_Pc [.ref (ta G t (0)), .int ar] (PW G (tw G Z t τ))) (oR (some (.int (oComplN τ r nO)))) 0 0 (fun _ => False) := by
  subst er
  refine o_body (cc := cX3_complaintsIn) (by decide +kernel) rfl (Nat.le_of_ble_eq_true rfl) ?_
  intro p e s m below meth c ls hx hb hml hr hlocks hown hts hP hK hN hl
  have hown : s.vm.findClass RX3 = some m.cls := hown
  have hl : lv_has ls 4 [(0, .ref (ta G t (0))), (1, .int (nI r))] := hl
  obtain ⟨hz1, hz2, hz3, hz4, hz5, hz6, hz7⟩ := id hz
  refine lv_iconst (v := 0) hx hb dX3_complaintsIn_0 (by decide) ?_
  refine lv_istore_n (lv' := [(2, .int 0), (0, .ref (ta G t (0))), (1, .int (nI r))]) hx hb dX3_complaintsIn_1 rfl hl (by decide) rfl (fun ls hl => ?_)
  refine lv_iconst (v := 0) hx hb dX3_complaintsIn_2 (by decide) ?_
  refine lv_istore_n (lv' := [(3, .int 0), (2, .int 0), (0, .ref (ta G t (0))), (1, .int (nI r))]) hx hb dX3_complaintsIn_3 rfl hl (by decide) rfl (fun ls hl => ?_)
  have lp4 : ∀ (d4 k : Nat), k + d4 = nO → ∀ x4_2 : Int32, x4_2 = (oComplN τ r k) → ∀ x4_3 : Int32, x4_3 = (nI k) → ∀ ls : Array Slot, lv_has ls 4 [(0, .ref (ta G t (0))), (1, .int (nI r)), (2, .int x4_2), (3, .int x4_3)] → W p l e ({ frames := 0, cells := 0, slots := 0, locals := 0 } : Room) s m ([.ref (ta G t (0)), .int (nI r)] : List Value).toArray below meth c s.heap [] 0 0 (MQ below (oR (some (.int (oComplN τ r nO)))) ([.ref (ta G t (0)), .int (nI r)] : List Value).toArray s 0 0 (fun _ => False)) (F0 m 4 ls []) := by
    intro d4
    induction d4 with
    | zero =>
      intro k hk4 x4_2 e4_2 x4_3 e4_3 ls hl
      subst e4_2
      subst e4_3
      have hk4 : k = nO := by omega
      refine lv_iload_n hx hb dX3_complaintsIn_4 rfl (lv_at hl 3 rfl) ?_
      refine lv_aload_n hx hb dX3_complaintsIn_5 rfl (lv_at hl 0 rfl) ?_
      refine va_get (D := G.1) (ci := 5) (v := .int (τ 18 0 1)) (C := RX3) (T := TX3) (N := 5) hx hb hts (fun w9 h9 => List.mem_cons_of_mem _ (List.mem_append_left _ (List.mem_append_right _ (h9)))) hown hK hP (1 + 67 * t + (0)) (tw_T G Z ht τ) rfl 3 (by decide) (hts (.fieldLink RX3 29 "OrganCensus$Town" "organCount" "I") (List.mem_of_getElem? (i := 1) rfl)) (fun _ h9 => h9) rfl dX3_complaintsIn_6 ?_
      refine lv_icmp_ge (tgt := 32) hx hb dX3_complaintsIn_9 (by decide) (fun c9 => ?_) (fun c9 => ?_)
      · have n9 := (o_nle (a := nO) (b := k) hz.2.2.1 rfl (by omega) (by omega)).mp c9
        refine lv_iload_n hx hb dX3_complaintsIn_32 rfl (lv_at hl 2 rfl) ?_
        exact o_iretR hx hb hr hlocks dX3_complaintsIn_33 (by rw [hk4])
      · have n9 := (mt (o_nle (a := nO) (b := k) hz.2.2.1 rfl (by omega) (by omega)).mpr) c9; omega
    | succ d4 ih4 =>
      intro k hk4 x4_2 e4_2 x4_3 e4_3 ls hl
      subst e4_2
      subst e4_3
      have hj4 : k < nO := by omega
      refine lv_iload_n hx hb dX3_complaintsIn_4 rfl (lv_at hl 3 rfl) ?_
      refine lv_aload_n hx hb dX3_complaintsIn_5 rfl (lv_at hl 0 rfl) ?_
      refine va_get (D := G.1) (ci := 5) (v := .int (τ 18 0 1)) (C := RX3) (T := TX3) (N := 5) hx hb hts (fun w9 h9 => List.mem_cons_of_mem _ (List.mem_append_left _ (List.mem_append_right _ (h9)))) hown hK hP (1 + 67 * t + (0)) (tw_T G Z ht τ) rfl 3 (by decide) (hts (.fieldLink RX3 29 "OrganCensus$Town" "organCount" "I") (List.mem_of_getElem? (i := 1) rfl)) (fun _ h9 => h9) rfl dX3_complaintsIn_6 ?_
      refine lv_icmp_ge (tgt := 32) hx hb dX3_complaintsIn_9 (by decide) (fun c9 => ?_) (fun c9 => ?_)
      · have n9 := (o_nle (a := nO) (b := k) hz.2.2.1 rfl (by omega) (by omega)).mp c9; omega
      · have n9 := (mt (o_nle (a := nO) (b := k) hz.2.2.1 rfl (by omega) (by omega)).mpr) c9
        refine lv_iload_n hx hb dX3_complaintsIn_12 rfl (lv_at hl 2 rfl) ?_
        refine lv_aload_n hx hb dX3_complaintsIn_13 rfl (lv_at hl 0 rfl) ?_
        refine va_get (D := G.1) (ci := 5) (v := .ref (ta G t (2))) (C := RX3) (T := TX3) (N := 5) hx hb hts (fun w9 h9 => List.mem_cons_of_mem _ (List.mem_append_left _ (List.mem_append_right _ (h9)))) hown hK hP (1 + 67 * t + (0)) (tw_T G Z ht τ) rfl 1 (by decide) (hts (.fieldLink RX3 19 "OrganCensus$Town" "organs" "[LOrganCensus$Organ;") (List.mem_of_getElem? (i := 2) rfl)) (fun _ h9 => h9) rfl dX3_complaintsIn_14 ?_
        refine lv_iload_n hx hb dX3_complaintsIn_17 rfl (lv_at hl 3 rfl) ?_
        refine o_aald (k := k) (C := RX0) hx hb hK hP (1 + 67 * t + (2)) 2 (tw_OA G Z ht τ) rfl rfl (by omega) (by decide) rfl dX3_complaintsIn_18 ?_
        refine va_get (D := G.1) (ci := 2) (v := .ref (ta G t (30 + 5 * k))) (C := RX0) (T := TX0) (N := 12) hx hb hts (fun w9 h9 => List.mem_cons_of_mem _ (List.mem_append_right _ (h9))) hown hK hP (1 + 67 * t + (27 + 5 * k)) (tw_O G Z ht τ (by omega)) rfl 2 (by decide) (hts (.fieldLink RX3 126 "OrganCensus$Organ" "complaints" "[I") (List.mem_of_getElem? (i := 3) rfl)) (fun _ h9 => h9) rfl dX3_complaintsIn_19 ?_
        refine lv_iload_n hx hb dX3_complaintsIn_22 rfl (lv_at hl 1 rfl) ?_
        refine o_iald (k := r) hx hb hK hP (1 + 67 * t + (30 + 5 * k)) 0 (tw_Oc G Z ht τ (by omega)) rfl rfl (by omega) (by decide) dX3_complaintsIn_23 ?_
        refine lv_iadd hx hb dX3_complaintsIn_24 ?_
        refine lv_istore_n (lv' := [(2, .int ((oComplN τ r k) + (τ 8 k r))), (0, .ref (ta G t (0))), (1, .int (nI r)), (3, .int (nI k))]) hx hb dX3_complaintsIn_25 rfl hl (by decide) rfl (fun ls hl => ?_)
        refine lv_iinc (v := nI (k + 1)) (lv' := [(3, .int (nI (k + 1))), (2, .int ((oComplN τ r k) + (τ 8 k r))), (0, .ref (ta G t (0))), (1, .int (nI r))]) hx hb dX3_complaintsIn_26 hl (k := 3) rfl (nI_1 k) (by decide) rfl (fun ls hl => ?_)
        refine lv_goto (tgt := 4) hx hb dX3_complaintsIn_29 (by decide) ?_
        exact ih4 (k + 1) (by omega) _ (rfl) _ (rfl) ls (lv_sub hl [2, 3, 1, 0] rfl)
  exact lp4 (nO) 0 (by omega) _ (rfl) _ (rfl) ls (lv_sub hl [2, 3, 1, 0] rfl)
set_option maxHeartbeats 4000000 in
set_option maxRecDepth 100000 in
theorem m_X3_drownedPitches (l : Launch) (G : oG) (Z : oZ) {t : Nat} (ht : t < 2) (τ : oT) (nS : Nat) (nO : Nat) (nH : Nat) (hz : oOK τ nS nO nH) (r : Nat) (ar : Int32) (er : ar = nI r) (hr6 : r < 6) : Met l yX3_drownedPitches wsX3_drownedPitches ({ frames := 3, cells := 0, slots := 0, locals := 70 } : Room) (va_Pc [.ref (ta G t (0)), .int ar] (PW G (tw G Z t τ))) (oR (some (.int (oDrownN τ nO (nI r) (oNp τ r))))) 0 0 (fun _ => False) := by
  subst er
  refine o_body (cc := cX3_drownedPitches) (by decide +kernel) rfl (Nat.le_of_ble_eq_true rfl) ?_
  intro p e s m below meth c ls hx hb hml hr hlocks hown hts hP hK hN hl
  have hown : s.vm.findClass RX3 = some m.cls := hown
  have hl : lv_has ls 4 [(0, .ref (ta G t (0))), (1, .int (nI r))] := hl
  obtain ⟨hz1, hz2, hz3, hz4, hz5, hz6, hz7⟩ := id hz
  refine lv_iconst (v := 0) hx hb dX3_drownedPitches_0 (by decide) ?_
  refine lv_istore_n (lv' := [(2, .int 0), (0, .ref (ta G t (0))), (1, .int (nI r))]) hx hb dX3_drownedPitches_1 rfl hl (by decide) rfl (fun ls hl => ?_)
  refine lv_iconst (v := 0) hx hb dX3_drownedPitches_2 (by decide) ?_
  refine lv_istore_n (lv' := [(3, .int 0), (2, .int 0), (0, .ref (ta G t (0))), (1, .int (nI r))]) hx hb dX3_drownedPitches_3 rfl hl (by decide) rfl (fun ls hl => ?_)
  have hp20 := (hz7 r (by omega)).2
  have lp4 : ∀ (d4 k : Nat), k + d4 = oNp τ r → ∀ x4_2 : Int32, x4_2 = (oDrownN τ nO (nI r) k) → ∀ x4_3 : Int32, x4_3 = (nI k) → ∀ ls : Array Slot, lv_has ls 4 [(0, .ref (ta G t (0))), (1, .int (nI r)), (2, .int x4_2), (3, .int x4_3)] → W p l e ({ frames := 3, cells := 0, slots := 0, locals := 70 } : Room) s m ([.ref (ta G t (0)), .int (nI r)] : List Value).toArray below meth c s.heap [] 0 0 (MQ below (oR (some (.int (oDrownN τ nO (nI r) (oNp τ r))))) ([.ref (ta G t (0)), .int (nI r)] : List Value).toArray s 0 0 (fun _ => False)) (F0 m 4 ls []) := by
    intro d4
    induction d4 with
    | zero =>
      intro k hk4 x4_2 e4_2 x4_3 e4_3 ls hl
      subst e4_2
      subst e4_3
      have hk4 : k = oNp τ r := by omega
      refine lv_iload_n hx hb dX3_drownedPitches_4 rfl (lv_at hl 3 rfl) ?_
      refine lv_aload_n hx hb dX3_drownedPitches_5 rfl (lv_at hl 0 rfl) ?_
      refine va_get (D := G.1) (ci := 5) (v := .ref (ta G t (1))) (C := RX3) (T := TX3) (N := 5) hx hb hts (fun w9 h9 => List.mem_cons_of_mem _ (List.mem_append_left _ (List.mem_append_left _ (List.mem_append_right _ (h9))))) hown hK hP (1 + 67 * t + (0)) (tw_T G Z ht τ) rfl 0 (by decide) (hts (.fieldLink RX3 11 "OrganCensus$Town" "streets" "[LOrganCensus$Street;") (List.mem_of_getElem? (i := 1) rfl)) (fun _ h9 => h9) rfl dX3_drownedPitches_6 ?_
      refine lv_iload_n hx hb dX3_drownedPitches_9 rfl (lv_at hl 1 rfl) ?_
      refine o_aald (k := r) (C := RX2) hx hb hK hP (1 + 67 * t + (1)) 1 (tw_SA G Z ht τ) rfl rfl (by omega) (by decide) rfl dX3_drownedPitches_10 ?_
      refine va_get (D := G.1) (ci := 4) (v := .int (τ 3 r 0)) (C := RX2) (T := TX2) (N := 6) hx hb hts (fun w9 h9 => List.mem_cons_of_mem _ (List.mem_append_left _ (List.mem_append_right _ (h9)))) hown hK hP (1 + 67 * t + (3 + 4 * r)) (tw_S G Z ht τ (by omega)) rfl 3 (by decide) (hts (.fieldLink RX3 42 "OrganCensus$Street" "pitches" "I") (List.mem_of_getElem? (i := 2) rfl)) (fun _ h9 => h9) rfl dX3_drownedPitches_11 ?_
      refine lv_icmp_ge (tgt := 37) hx hb dX3_drownedPitches_14 (by decide) (fun c14 => ?_) (fun c14 => ?_)
      · have n14 := (o_nle (a := oNp τ r) (b := k) (hz.2.2.2.2.2.2 r (by omega)).1 rfl (by omega) (by omega)).mp c14
        refine lv_iload_n hx hb dX3_drownedPitches_37 rfl (lv_at hl 2 rfl) ?_
        exact o_iretR hx hb hr hlocks dX3_drownedPitches_38 (by rw [hk4])
      · have n14 := (mt (o_nle (a := oNp τ r) (b := k) (hz.2.2.2.2.2.2 r (by omega)).1 rfl (by omega) (by omega)).mpr) c14; omega
    | succ d4 ih4 =>
      intro k hk4 x4_2 e4_2 x4_3 e4_3 ls hl
      subst e4_2
      subst e4_3
      have hj4 : k < oNp τ r := by omega
      refine lv_iload_n hx hb dX3_drownedPitches_4 rfl (lv_at hl 3 rfl) ?_
      refine lv_aload_n hx hb dX3_drownedPitches_5 rfl (lv_at hl 0 rfl) ?_
      refine va_get (D := G.1) (ci := 5) (v := .ref (ta G t (1))) (C := RX3) (T := TX3) (N := 5) hx hb hts (fun w9 h9 => List.mem_cons_of_mem _ (List.mem_append_left _ (List.mem_append_left _ (List.mem_append_right _ (h9))))) hown hK hP (1 + 67 * t + (0)) (tw_T G Z ht τ) rfl 0 (by decide) (hts (.fieldLink RX3 11 "OrganCensus$Town" "streets" "[LOrganCensus$Street;") (List.mem_of_getElem? (i := 1) rfl)) (fun _ h9 => h9) rfl dX3_drownedPitches_6 ?_
      refine lv_iload_n hx hb dX3_drownedPitches_9 rfl (lv_at hl 1 rfl) ?_
      refine o_aald (k := r) (C := RX2) hx hb hK hP (1 + 67 * t + (1)) 1 (tw_SA G Z ht τ) rfl rfl (by omega) (by decide) rfl dX3_drownedPitches_10 ?_
      refine va_get (D := G.1) (ci := 4) (v := .int (τ 3 r 0)) (C := RX2) (T := TX2) (N := 6) hx hb hts (fun w9 h9 => List.mem_cons_of_mem _ (List.mem_append_left _ (List.mem_append_right _ (h9)))) hown hK hP (1 + 67 * t + (3 + 4 * r)) (tw_S G Z ht τ (by omega)) rfl 3 (by decide) (hts (.fieldLink RX3 42 "OrganCensus$Street" "pitches" "I") (List.mem_of_getElem? (i := 2) rfl)) (fun _ h9 => h9) rfl dX3_drownedPitches_11 ?_
      refine lv_icmp_ge (tgt := 37) hx hb dX3_drownedPitches_14 (by decide) (fun c14 => ?_) (fun c14 => ?_)
      · have n14 := (o_nle (a := oNp τ r) (b := k) (hz.2.2.2.2.2.2 r (by omega)).1 rfl (by omega) (by omega)).mp c14; omega
      · have n14 := (mt (o_nle (a := oNp τ r) (b := k) (hz.2.2.2.2.2.2 r (by omega)).1 rfl (by omega) (by omega)).mpr) c14
        refine lv_aload_n hx hb dX3_drownedPitches_17 rfl (lv_at hl 0 rfl) ?_
        refine lv_iload_n hx hb dX3_drownedPitches_18 rfl (lv_at hl 1 rfl) ?_
        refine lv_iload_n hx hb dX3_drownedPitches_19 rfl (lv_at hl 3 rfl) ?_
        refine o_cVi (q0 := 1 + 67 * t + (0)) (ci := 5) [.int (nI r), .int (nI k)] [] ⟨hx, hb, hml, hown, hts⟩ (m_X3_whoIsHeard l G Z ht τ nS nO nH hz (nI r) (nI k)) (cwV 2 hts gX3_drownedPitches_X3_whoIsHeard rfl rfl rfl (by decide +kernel) ⟨Nat.le_of_ble_eq_true rfl, Nat.le_of_ble_eq_true rfl⟩) hK hN hP rfl rfl (tw_T G Z ht τ) rfl hl.1 rfl (Nat.le_of_ble_eq_true rfl) dX3_drownedPitches_20 ⟨Nat.zero_le _, Nat.zero_le _⟩ ?_
        refine lv_bipush (v := (-2)) hx hb dX3_drownedPitches_23 (by decide) ?_
        refine lv_icmp_ne (tgt := 31) hx hb dX3_drownedPitches_25 (by decide) (fun c25 => ?_) (fun c25 => ?_)
        · refine lv_iinc (v := nI (k + 1)) (lv' := [(3, .int (nI (k + 1))), (0, .ref (ta G t (0))), (1, .int (nI r)), (2, .int (oDrownN τ nO (nI r) k))]) hx hb dX3_drownedPitches_31 hl (k := 3) rfl (nI_1 k) (by decide) rfl (fun ls hl => ?_)
          refine lv_goto (tgt := 4) hx hb dX3_drownedPitches_34 (by decide) ?_
          exact ih4 (k + 1) (by omega) _ (by simp [oDrownN, c14, c25]) _ (rfl) ls (lv_sub hl [1, 2, 3, 0] rfl)
        · refine lv_iinc (v := (oDrownN τ nO (nI r) k) + 1) (lv' := [(2, .int ((oDrownN τ nO (nI r) k) + 1)), (0, .ref (ta G t (0))), (1, .int (nI r)), (3, .int (nI k))]) hx hb dX3_drownedPitches_28 hl (k := 2) rfl rfl (by decide) rfl (fun ls hl => ?_)
          refine lv_iinc (v := nI (k + 1)) (lv' := [(3, .int (nI (k + 1))), (2, .int ((oDrownN τ nO (nI r) k) + 1)), (0, .ref (ta G t (0))), (1, .int (nI r))]) hx hb dX3_drownedPitches_31 hl (k := 3) rfl (nI_1 k) (by decide) rfl (fun ls hl => ?_)
          refine lv_goto (tgt := 4) hx hb dX3_drownedPitches_34 (by decide) ?_
          exact ih4 (k + 1) (by omega) _ (by simp [oDrownN, c14, c25]) _ (rfl) ls (lv_sub hl [2, 3, 1, 0] rfl)
  exact lp4 (oNp τ r) 0 (by omega) _ (rfl) _ (rfl) ls (lv_sub hl [2, 3, 1, 0] rfl)
set_option maxHeartbeats 4000000 in
set_option maxRecDepth 100000 in
theorem m_X3_heardPitches (l : Launch) (G : oG) (Z : oZ) {t : Nat} (ht : t < 2) (τ : oT) (nS : Nat) (nO : Nat) (nH : Nat) (hz : oOK τ nS nO nH) (r : Nat) (ar : Int32) (er : ar = nI r) (hr6 : r < 6) : Met l yX3_heardPitches wsX3_heardPitches ({ frames := 3, cells := 0, slots := 0, locals := 70 } : Room) (va_Pc [.ref (ta G t (0)), .int ar] (PW G (tw G Z t τ))) (oR (some (.int (oHeardN τ nO (nI r) (oNp τ r))))) 0 0 (fun _ => False) := by
  subst er
  refine o_body (cc := cX3_heardPitches) (by decide +kernel) rfl (Nat.le_of_ble_eq_true rfl) ?_
  intro p e s m below meth c ls hx hb hml hr hlocks hown hts hP hK hN hl
  have hown : s.vm.findClass RX3 = some m.cls := hown
  have hl : lv_has ls 4 [(0, .ref (ta G t (0))), (1, .int (nI r))] := hl
  obtain ⟨hz1, hz2, hz3, hz4, hz5, hz6, hz7⟩ := id hz
  refine lv_iconst (v := 0) hx hb dX3_heardPitches_0 (by decide) ?_
  refine lv_istore_n (lv' := [(2, .int 0), (0, .ref (ta G t (0))), (1, .int (nI r))]) hx hb dX3_heardPitches_1 rfl hl (by decide) rfl (fun ls hl => ?_)
  refine lv_iconst (v := 0) hx hb dX3_heardPitches_2 (by decide) ?_
  refine lv_istore_n (lv' := [(3, .int 0), (2, .int 0), (0, .ref (ta G t (0))), (1, .int (nI r))]) hx hb dX3_heardPitches_3 rfl hl (by decide) rfl (fun ls hl => ?_)
  have hp20 := (hz7 r (by omega)).2
  have lp4 : ∀ (d4 k : Nat), k + d4 = oNp τ r → ∀ x4_2 : Int32, x4_2 = (oHeardN τ nO (nI r) k) → ∀ x4_3 : Int32, x4_3 = (nI k) → ∀ ls : Array Slot, lv_has ls 4 [(0, .ref (ta G t (0))), (1, .int (nI r)), (2, .int x4_2), (3, .int x4_3)] → W p l e ({ frames := 3, cells := 0, slots := 0, locals := 70 } : Room) s m ([.ref (ta G t (0)), .int (nI r)] : List Value).toArray below meth c s.heap [] 0 0 (MQ below (oR (some (.int (oHeardN τ nO (nI r) (oNp τ r))))) ([.ref (ta G t (0)), .int (nI r)] : List Value).toArray s 0 0 (fun _ => False)) (F0 m 4 ls []) := by
    intro d4
    induction d4 with
    | zero =>
      intro k hk4 x4_2 e4_2 x4_3 e4_3 ls hl
      subst e4_2
      subst e4_3
      have hk4 : k = oNp τ r := by omega
      refine lv_iload_n hx hb dX3_heardPitches_4 rfl (lv_at hl 3 rfl) ?_
      refine lv_aload_n hx hb dX3_heardPitches_5 rfl (lv_at hl 0 rfl) ?_
      refine va_get (D := G.1) (ci := 5) (v := .ref (ta G t (1))) (C := RX3) (T := TX3) (N := 5) hx hb hts (fun w9 h9 => List.mem_cons_of_mem _ (List.mem_append_left _ (List.mem_append_left _ (List.mem_append_right _ (h9))))) hown hK hP (1 + 67 * t + (0)) (tw_T G Z ht τ) rfl 0 (by decide) (hts (.fieldLink RX3 11 "OrganCensus$Town" "streets" "[LOrganCensus$Street;") (List.mem_of_getElem? (i := 1) rfl)) (fun _ h9 => h9) rfl dX3_heardPitches_6 ?_
      refine lv_iload_n hx hb dX3_heardPitches_9 rfl (lv_at hl 1 rfl) ?_
      refine o_aald (k := r) (C := RX2) hx hb hK hP (1 + 67 * t + (1)) 1 (tw_SA G Z ht τ) rfl rfl (by omega) (by decide) rfl dX3_heardPitches_10 ?_
      refine va_get (D := G.1) (ci := 4) (v := .int (τ 3 r 0)) (C := RX2) (T := TX2) (N := 6) hx hb hts (fun w9 h9 => List.mem_cons_of_mem _ (List.mem_append_left _ (List.mem_append_right _ (h9)))) hown hK hP (1 + 67 * t + (3 + 4 * r)) (tw_S G Z ht τ (by omega)) rfl 3 (by decide) (hts (.fieldLink RX3 42 "OrganCensus$Street" "pitches" "I") (List.mem_of_getElem? (i := 2) rfl)) (fun _ h9 => h9) rfl dX3_heardPitches_11 ?_
      refine lv_icmp_ge (tgt := 35) hx hb dX3_heardPitches_14 (by decide) (fun c14 => ?_) (fun c14 => ?_)
      · have n14 := (o_nle (a := oNp τ r) (b := k) (hz.2.2.2.2.2.2 r (by omega)).1 rfl (by omega) (by omega)).mp c14
        refine lv_iload_n hx hb dX3_heardPitches_35 rfl (lv_at hl 2 rfl) ?_
        exact o_iretR hx hb hr hlocks dX3_heardPitches_36 (by rw [hk4])
      · have n14 := (mt (o_nle (a := oNp τ r) (b := k) (hz.2.2.2.2.2.2 r (by omega)).1 rfl (by omega) (by omega)).mpr) c14; omega
    | succ d4 ih4 =>
      intro k hk4 x4_2 e4_2 x4_3 e4_3 ls hl
      subst e4_2
      subst e4_3
      have hj4 : k < oNp τ r := by omega
      refine lv_iload_n hx hb dX3_heardPitches_4 rfl (lv_at hl 3 rfl) ?_
      refine lv_aload_n hx hb dX3_heardPitches_5 rfl (lv_at hl 0 rfl) ?_
      refine va_get (D := G.1) (ci := 5) (v := .ref (ta G t (1))) (C := RX3) (T := TX3) (N := 5) hx hb hts (fun w9 h9 => List.mem_cons_of_mem _ (List.mem_append_left _ (List.mem_append_left _ (List.mem_append_right _ (h9))))) hown hK hP (1 + 67 * t + (0)) (tw_T G Z ht τ) rfl 0 (by decide) (hts (.fieldLink RX3 11 "OrganCensus$Town" "streets" "[LOrganCensus$Street;") (List.mem_of_getElem? (i := 1) rfl)) (fun _ h9 => h9) rfl dX3_heardPitches_6 ?_
      refine lv_iload_n hx hb dX3_heardPitches_9 rfl (lv_at hl 1 rfl) ?_
      refine o_aald (k := r) (C := RX2) hx hb hK hP (1 + 67 * t + (1)) 1 (tw_SA G Z ht τ) rfl rfl (by omega) (by decide) rfl dX3_heardPitches_10 ?_
      refine va_get (D := G.1) (ci := 4) (v := .int (τ 3 r 0)) (C := RX2) (T := TX2) (N := 6) hx hb hts (fun w9 h9 => List.mem_cons_of_mem _ (List.mem_append_left _ (List.mem_append_right _ (h9)))) hown hK hP (1 + 67 * t + (3 + 4 * r)) (tw_S G Z ht τ (by omega)) rfl 3 (by decide) (hts (.fieldLink RX3 42 "OrganCensus$Street" "pitches" "I") (List.mem_of_getElem? (i := 2) rfl)) (fun _ h9 => h9) rfl dX3_heardPitches_11 ?_
      refine lv_icmp_ge (tgt := 35) hx hb dX3_heardPitches_14 (by decide) (fun c14 => ?_) (fun c14 => ?_)
      · have n14 := (o_nle (a := oNp τ r) (b := k) (hz.2.2.2.2.2.2 r (by omega)).1 rfl (by omega) (by omega)).mp c14; omega
      · have n14 := (mt (o_nle (a := oNp τ r) (b := k) (hz.2.2.2.2.2.2 r (by omega)).1 rfl (by omega) (by omega)).mpr) c14
        refine lv_aload_n hx hb dX3_heardPitches_17 rfl (lv_at hl 0 rfl) ?_
        refine lv_iload_n hx hb dX3_heardPitches_18 rfl (lv_at hl 1 rfl) ?_
        refine lv_iload_n hx hb dX3_heardPitches_19 rfl (lv_at hl 3 rfl) ?_
        refine o_cVi (q0 := 1 + 67 * t + (0)) (ci := 5) [.int (nI r), .int (nI k)] [] ⟨hx, hb, hml, hown, hts⟩ (m_X3_whoIsHeard l G Z ht τ nS nO nH hz (nI r) (nI k)) (cwV 2 hts gX3_heardPitches_X3_whoIsHeard rfl rfl rfl (by decide +kernel) ⟨Nat.le_of_ble_eq_true rfl, Nat.le_of_ble_eq_true rfl⟩) hK hN hP rfl rfl (tw_T G Z ht τ) rfl hl.1 rfl (Nat.le_of_ble_eq_true rfl) dX3_heardPitches_20 ⟨Nat.zero_le _, Nat.zero_le _⟩ ?_
        refine lv_if_lt (tgt := 29) hx hb dX3_heardPitches_23 (by decide) (fun c23 => ?_) (fun c23 => ?_)
        · refine lv_iinc (v := nI (k + 1)) (lv' := [(3, .int (nI (k + 1))), (0, .ref (ta G t (0))), (1, .int (nI r)), (2, .int (oHeardN τ nO (nI r) k))]) hx hb dX3_heardPitches_29 hl (k := 3) rfl (nI_1 k) (by decide) rfl (fun ls hl => ?_)
          refine lv_goto (tgt := 4) hx hb dX3_heardPitches_32 (by decide) ?_
          exact ih4 (k + 1) (by omega) _ (by simp [oHeardN, c14, c23]) _ (rfl) ls (lv_sub hl [1, 2, 3, 0] rfl)
        · refine lv_iinc (v := (oHeardN τ nO (nI r) k) + 1) (lv' := [(2, .int ((oHeardN τ nO (nI r) k) + 1)), (0, .ref (ta G t (0))), (1, .int (nI r)), (3, .int (nI k))]) hx hb dX3_heardPitches_26 hl (k := 2) rfl rfl (by decide) rfl (fun ls hl => ?_)
          refine lv_iinc (v := nI (k + 1)) (lv' := [(3, .int (nI (k + 1))), (2, .int ((oHeardN τ nO (nI r) k) + 1)), (0, .ref (ta G t (0))), (1, .int (nI r))]) hx hb dX3_heardPitches_29 hl (k := 3) rfl (nI_1 k) (by decide) rfl (fun ls hl => ?_)
          refine lv_goto (tgt := 4) hx hb dX3_heardPitches_32 (by decide) ?_
          exact ih4 (k + 1) (by omega) _ (by simp [oHeardN, c14, c23]) _ (rfl) ls (lv_sub hl [2, 3, 1, 0] rfl)
  exact lp4 (oNp τ r) 0 (by omega) _ (rfl) _ (rfl) ls (lv_sub hl [2, 3, 1, 0] rfl)
set_option maxHeartbeats 4000000 in
set_option maxRecDepth 100000 in
theorem m_X3_passersNow (l : Launch) (G : oG) (Z : oZ) {t : Nat} (ht : t < 2) (τ : oT) (nS : Nat) (nO : Nat) (nH : Nat) (hz : oOK τ nS nO nH) (r : Nat) (hr6 : r < 6) : Met l yX3_passersNow wsX3_passersNow ({ frames := 1, cells := 0, slots := 0, locals := 22 } : Room) (va_Pc [.ref (ta G t (0)), .ref (ta G t (3 + 4 * r))] (PW G (tw G Z t τ))) (oR (some (.int (oPas τ nH r)))) 0 0 (fun _ => False) := by
  refine o_body (cc := cX3_passersNow) (by decide +kernel) rfl (Nat.le_of_ble_eq_true rfl) ?_
  intro p e s m below meth c ls hx hb hml hr hlocks hown hts hP hK hN hl
  have hown : s.vm.findClass RX3 = some m.cls := hown
  have hl : lv_has ls 2 [(0, .ref (ta G t (0))), (1, .ref (ta G t (3 + 4 * r)))] := hl
  obtain ⟨hz1, hz2, hz3, hz4, hz5, hz6, hz7⟩ := id hz
  refine lv_aload_n hx hb dX3_passersNow_0 rfl (lv_at hl 1 rfl) ?_
  refine va_get (D := G.1) (ci := 4) (v := .ref (ta G t (4 + 4 * r))) (C := RX2) (T := TX2) (N := 6) hx hb hts (fun w9 h9 => List.mem_cons_of_mem _ (List.mem_append_left _ (List.mem_append_right _ (h9)))) hown hK hP (1 + 67 * t + (3 + 4 * r)) (tw_S G Z ht τ (by omega)) rfl 0 (by decide) (hts (.fieldLink RX3 120 "OrganCensus$Street" "passersByHour" "[I") (List.mem_of_getElem? (i := 1) rfl)) (fun _ h9 => h9) rfl dX3_passersNow_1 ?_
  refine lv_aload_n hx hb dX3_passersNow_4 rfl (lv_at hl 0 rfl) ?_
  refine va_get (D := G.1) (ci := 5) (v := .int (τ 18 0 2)) (C := RX3) (T := TX3) (N := 5) hx hb hts (fun w9 h9 => List.mem_cons_of_mem _ (List.mem_append_right _ (h9))) hown hK hP (1 + 67 * t + (0)) (tw_T G Z ht τ) rfl 4 (by decide) (hts (.fieldLink RX3 32 "OrganCensus$Town" "hour" "I") (List.mem_of_getElem? (i := 2) rfl)) (fun _ h9 => h9) rfl dX3_passersNow_5 ?_
  refine lv_bipush (v := 24) hx hb dX3_passersNow_8 (by decide) ?_
  refine o_cSi [.int (τ 18 0 2), .int 24] [.ref (ta G t (4 + 4 * r))] ⟨hx, hb, hml, hown, hts⟩ (m_J9_floorMod_7cf53 l G (tw G Z t τ) (τ 18 0 2) 24 (by decide)) (va_cwS 2 hts gX3_passersNow_J9_floorMod_7cf53 rfl rfl rfl (by decide +kernel) ⟨Nat.le_of_ble_eq_true rfl, Nat.le_of_ble_eq_true rfl⟩) hK hN hP rfl hl.1 rfl (Nat.le_of_ble_eq_true rfl) dX3_passersNow_10 ⟨Nat.zero_le _, Nat.zero_le _⟩ ?_
  refine o_iald (k := nH % 24) hx hb hK hP (1 + 67 * t + (4 + 4 * r)) 0 (tw_Sp G Z ht τ (by omega)) rfl (o_fm24 hz5 (by omega)) (by omega) (by decide) dX3_passersNow_13 ?_
  exact o_iretR hx hb hr hlocks dX3_passersNow_14 (rfl)
set_option maxHeartbeats 4000000 in
set_option maxRecDepth 100000 in
theorem m_X3_streetFact (l : Launch) (G : oG) (Z : oZ) {t : Nat} (ht : t < 2) (τ : oT) (nS : Nat) (nO : Nat) (nH : Nat) (hz : oOK τ nS nO nH) (r : Nat) (ar : Int32) (er : ar = nI r) (hr6 : r < 6) (w : Nat) (aw : Int32) (ew : aw = nI w) (hw : w < 8) : Met l yX3_streetFact wsX3_streetFact ({ frames := 4, cells := 0, slots := 0, locals := 93 } : Room) (va_Pc [.ref (ta G t (0)), .int ar, .int aw] (PW G (tw G Z t τ))) (oR (some (.int (oSFact τ nO nH r w)))) 0 0 (fun _ => False) := by
  subst er
  subst ew
  refine o_body (cc := cX3_streetFact) (by decide +kernel) rfl (Nat.le_of_ble_eq_true rfl) ?_
  intro p e s m below meth c ls hx hb hml hr hlocks hown hts hP hK hN hl
  have hown : s.vm.findClass RX3 = some m.cls := hown
  have hl : lv_has ls 3 [(0, .ref (ta G t (0))), (1, .int (nI r)), (2, .int (nI w))] := hl
  obtain ⟨hz1, hz2, hz3, hz4, hz5, hz6, hz7⟩ := id hz
  refine lv_iload_n hx hb dX3_streetFact_0 rfl (lv_at hl 2 rfl) ?_
  rcases (show w = 0 ∨ w = 1 ∨ w = 2 ∨ w = 3 ∨ w = 4 ∨ w = 5 ∨ w = 6 ∨ w = 7 by omega) with rfl | rfl | rfl | rfl | rfl | rfl | rfl | rfl
  · refine lv_tableIn (off := 43) (tgt := 44) hx hb dX3_streetFact_1 (by decide) (by decide) (by decide) (by decide) ?_
    refine lv_aload_n hx hb dX3_streetFact_44 rfl (lv_at hl 0 rfl) ?_
    refine va_get (D := G.1) (ci := 5) (v := .ref (ta G t (1))) (C := RX3) (T := TX3) (N := 5) hx hb hts (fun w9 h9 => List.mem_cons_of_mem _ (List.mem_append_left _ (List.mem_append_left _ (List.mem_append_right _ (h9))))) hown hK hP (1 + 67 * t + (0)) (tw_T G Z ht τ) rfl 0 (by decide) (hts (.fieldLink RX3 11 "OrganCensus$Town" "streets" "[LOrganCensus$Street;") (List.mem_of_getElem? (i := 1) rfl)) (fun _ h9 => h9) rfl dX3_streetFact_45 ?_
    refine lv_iload_n hx hb dX3_streetFact_48 rfl (lv_at hl 1 rfl) ?_
    refine o_aald (k := r) (C := RX2) hx hb hK hP (1 + 67 * t + (1)) 1 (tw_SA G Z ht τ) rfl rfl (by omega) (by decide) rfl dX3_streetFact_49 ?_
    refine va_get (D := G.1) (ci := 4) (v := .int (τ 3 r 0)) (C := RX2) (T := TX2) (N := 6) hx hb hts (fun w9 h9 => List.mem_cons_of_mem _ (List.mem_append_left _ (List.mem_append_right _ (h9)))) hown hK hP (1 + 67 * t + (3 + 4 * r)) (tw_S G Z ht τ (by omega)) rfl 3 (by decide) (hts (.fieldLink RX3 42 "OrganCensus$Street" "pitches" "I") (List.mem_of_getElem? (i := 2) rfl)) (fun _ h9 => h9) rfl dX3_streetFact_50 ?_
    exact o_iretR hx hb hr hlocks dX3_streetFact_53 (rfl)
  · refine lv_tableIn (off := 53) (tgt := 54) hx hb dX3_streetFact_1 (by decide) (by decide) (by decide) (by decide) ?_
    refine lv_aload_n hx hb dX3_streetFact_54 rfl (lv_at hl 0 rfl) ?_
    refine lv_aload_n hx hb dX3_streetFact_55 rfl (lv_at hl 0 rfl) ?_
    refine va_get (D := G.1) (ci := 5) (v := .ref (ta G t (1))) (C := RX3) (T := TX3) (N := 5) hx hb hts (fun w9 h9 => List.mem_cons_of_mem _ (List.mem_append_left _ (List.mem_append_left _ (List.mem_append_right _ (h9))))) hown hK hP (1 + 67 * t + (0)) (tw_T G Z ht τ) rfl 0 (by decide) (hts (.fieldLink RX3 11 "OrganCensus$Town" "streets" "[LOrganCensus$Street;") (List.mem_of_getElem? (i := 1) rfl)) (fun _ h9 => h9) rfl dX3_streetFact_56 ?_
    refine lv_iload_n hx hb dX3_streetFact_59 rfl (lv_at hl 1 rfl) ?_
    refine o_aald (k := r) (C := RX2) hx hb hK hP (1 + 67 * t + (1)) 1 (tw_SA G Z ht τ) rfl rfl (by omega) (by decide) rfl dX3_streetFact_60 ?_
    refine o_cVi (q0 := 1 + 67 * t + (0)) (ci := 5) [.ref (ta G t (3 + 4 * r))] [] ⟨hx, hb, hml, hown, hts⟩ (m_X3_passersNow l G Z ht τ nS nO nH hz r (by omega)) (cwV 1 hts gX3_streetFact_X3_passersNow rfl rfl rfl (by decide +kernel) ⟨Nat.le_of_ble_eq_true rfl, Nat.le_of_ble_eq_true rfl⟩) hK hN hP rfl rfl (tw_T G Z ht τ) rfl hl.1 rfl (Nat.le_of_ble_eq_true rfl) dX3_streetFact_61 ⟨Nat.zero_le _, Nat.zero_le _⟩ ?_
    exact o_iretR hx hb hr hlocks dX3_streetFact_64 (rfl)
  · refine lv_tableIn (off := 64) (tgt := 65) hx hb dX3_streetFact_1 (by decide) (by decide) (by decide) (by decide) ?_
    refine lv_aload_n hx hb dX3_streetFact_65 rfl (lv_at hl 0 rfl) ?_
    refine lv_iload_n hx hb dX3_streetFact_66 rfl (lv_at hl 1 rfl) ?_
    refine o_cVi (q0 := 1 + 67 * t + (0)) (ci := 5) [.int (nI r)] [] ⟨hx, hb, hml, hown, hts⟩ (m_X3_standingIn l G Z ht τ nS nO nH hz (nI r)) (cwV 1 hts gX3_streetFact_X3_standingIn rfl rfl rfl (by decide +kernel) ⟨Nat.le_of_ble_eq_true rfl, Nat.le_of_ble_eq_true rfl⟩) hK hN hP rfl rfl (tw_T G Z ht τ) rfl hl.1 rfl (Nat.le_of_ble_eq_true rfl) dX3_streetFact_67 ⟨Nat.zero_le _, Nat.zero_le _⟩ ?_
    exact o_iretR hx hb hr hlocks dX3_streetFact_70 (rfl)
  · refine lv_tableIn (off := 70) (tgt := 71) hx hb dX3_streetFact_1 (by decide) (by decide) (by decide) (by decide) ?_
    refine lv_aload_n hx hb dX3_streetFact_71 rfl (lv_at hl 0 rfl) ?_
    refine lv_iload_n hx hb dX3_streetFact_72 rfl (lv_at hl 1 rfl) ?_
    refine o_cVi (q0 := 1 + 67 * t + (0)) (ci := 5) [.int (nI r)] [] ⟨hx, hb, hml, hown, hts⟩ (m_X3_complaintsIn l G Z ht τ nS nO nH hz r (nI r) (rfl) (by omega)) (cwV 1 hts gX3_streetFact_X3_complaintsIn rfl rfl rfl (by decide +kernel) ⟨Nat.le_of_ble_eq_true rfl, Nat.le_of_ble_eq_true rfl⟩) hK hN hP rfl rfl (tw_T G Z ht τ) rfl hl.1 rfl (Nat.le_of_ble_eq_true rfl) dX3_streetFact_73 ⟨Nat.zero_le _, Nat.zero_le _⟩ ?_
    exact o_iretR hx hb hr hlocks dX3_streetFact_76 (rfl)
  · refine lv_tableIn (off := 76) (tgt := 77) hx hb dX3_streetFact_1 (by decide) (by decide) (by decide) (by decide) ?_
    refine lv_aload_n hx hb dX3_streetFact_77 rfl (lv_at hl 0 rfl) ?_
    refine va_get (D := G.1) (ci := 5) (v := .ref (ta G t (1))) (C := RX3) (T := TX3) (N := 5) hx hb hts (fun w9 h9 => List.mem_cons_of_mem _ (List.mem_append_left _ (List.mem_append_left _ (List.mem_append_right _ (h9))))) hown hK hP (1 + 67 * t + (0)) (tw_T G Z ht τ) rfl 0 (by decide) (hts (.fieldLink RX3 11 "OrganCensus$Town" "streets" "[LOrganCensus$Street;") (List.mem_of_getElem? (i := 1) rfl)) (fun _ h9 => h9) rfl dX3_streetFact_78 ?_
    refine lv_iload_n hx hb dX3_streetFact_81 rfl (lv_at hl 1 rfl) ?_
    refine o_aald (k := r) (C := RX2) hx hb hK hP (1 + 67 * t + (1)) 1 (tw_SA G Z ht τ) rfl rfl (by omega) (by decide) rfl dX3_streetFact_82 ?_
    refine va_get (D := G.1) (ci := 4) (v := .int (τ 4 r 0)) (C := RX2) (T := TX2) (N := 6) hx hb hts (fun w9 h9 => List.mem_cons_of_mem _ (List.mem_append_left _ (List.mem_append_right _ (h9)))) hown hK hP (1 + 67 * t + (3 + 4 * r)) (tw_S G Z ht τ (by omega)) rfl 4 (by decide) (hts (.fieldLink RX3 97 "OrganCensus$Street" "coins" "I") (List.mem_of_getElem? (i := 3) rfl)) (fun _ h9 => h9) rfl dX3_streetFact_83 ?_
    exact o_iretR hx hb hr hlocks dX3_streetFact_86 (rfl)
  · refine lv_tableIn (off := 86) (tgt := 87) hx hb dX3_streetFact_1 (by decide) (by decide) (by decide) (by decide) ?_
    refine lv_aload_n hx hb dX3_streetFact_87 rfl (lv_at hl 0 rfl) ?_
    refine va_get (D := G.1) (ci := 5) (v := .ref (ta G t (1))) (C := RX3) (T := TX3) (N := 5) hx hb hts (fun w9 h9 => List.mem_cons_of_mem _ (List.mem_append_left _ (List.mem_append_left _ (List.mem_append_right _ (h9))))) hown hK hP (1 + 67 * t + (0)) (tw_T G Z ht τ) rfl 0 (by decide) (hts (.fieldLink RX3 11 "OrganCensus$Town" "streets" "[LOrganCensus$Street;") (List.mem_of_getElem? (i := 1) rfl)) (fun _ h9 => h9) rfl dX3_streetFact_88 ?_
    refine lv_iload_n hx hb dX3_streetFact_91 rfl (lv_at hl 1 rfl) ?_
    refine o_aald (k := r) (C := RX2) hx hb hK hP (1 + 67 * t + (1)) 1 (tw_SA G Z ht τ) rfl rfl (by omega) (by decide) rfl dX3_streetFact_92 ?_
    refine va_get (D := G.1) (ci := 4) (v := .int (τ 5 r 0)) (C := RX2) (T := TX2) (N := 6) hx hb hts (fun w9 h9 => List.mem_cons_of_mem _ (List.mem_append_left _ (List.mem_append_right _ (h9)))) hown hK hP (1 + 67 * t + (3 + 4 * r)) (tw_S G Z ht τ (by omega)) rfl 5 (by decide) (hts (.fieldLink RX3 157 "OrganCensus$Street" "banishments" "I") (List.mem_of_getElem? (i := 4) rfl)) (fun _ h9 => h9) rfl dX3_streetFact_93 ?_
    exact o_iretR hx hb hr hlocks dX3_streetFact_96 (rfl)
  · refine lv_tableIn (off := 96) (tgt := 97) hx hb dX3_streetFact_1 (by decide) (by decide) (by decide) (by decide) ?_
    refine lv_aload_n hx hb dX3_streetFact_97 rfl (lv_at hl 0 rfl) ?_
    refine lv_iload_n hx hb dX3_streetFact_98 rfl (lv_at hl 1 rfl) ?_
    refine o_cVi (q0 := 1 + 67 * t + (0)) (ci := 5) [.int (nI r)] [] ⟨hx, hb, hml, hown, hts⟩ (m_X3_drownedPitches l G Z ht τ nS nO nH hz r (nI r) (rfl) (by omega)) (cwV 1 hts gX3_streetFact_X3_drownedPitches rfl rfl rfl (by decide +kernel) ⟨Nat.le_of_ble_eq_true rfl, Nat.le_of_ble_eq_true rfl⟩) hK hN hP rfl rfl (tw_T G Z ht τ) rfl hl.1 rfl (Nat.le_of_ble_eq_true rfl) dX3_streetFact_99 ⟨Nat.zero_le _, Nat.zero_le _⟩ ?_
    exact o_iretR hx hb hr hlocks dX3_streetFact_102 (rfl)
  · refine lv_tableOut (tgt := 103) hx hb dX3_streetFact_1 (by decide) (by decide) ?_
    refine lv_aload_n hx hb dX3_streetFact_103 rfl (lv_at hl 0 rfl) ?_
    refine lv_iload_n hx hb dX3_streetFact_104 rfl (lv_at hl 1 rfl) ?_
    refine o_cVi (q0 := 1 + 67 * t + (0)) (ci := 5) [.int (nI r)] [] ⟨hx, hb, hml, hown, hts⟩ (m_X3_heardPitches l G Z ht τ nS nO nH hz r (nI r) (rfl) (by omega)) (cwV 1 hts gX3_streetFact_X3_heardPitches rfl rfl rfl (by decide +kernel) ⟨Nat.le_of_ble_eq_true rfl, Nat.le_of_ble_eq_true rfl⟩) hK hN hP rfl rfl (tw_T G Z ht τ) rfl hl.1 rfl (Nat.le_of_ble_eq_true rfl) dX3_streetFact_105 ⟨Nat.zero_le _, Nat.zero_le _⟩ ?_
    exact o_iretR hx hb hr hlocks dX3_streetFact_108 (rfl)
set_option maxHeartbeats 4000000 in
set_option maxRecDepth 100000 in
theorem m_X3_isPlayed (l : Launch) (G : oG) (Z : oZ) {t : Nat} (ht : t < 2) (τ : oT) (nS : Nat) (nO : Nat) (nH : Nat) (hz : oOK τ nS nO nH) (x : Int32) (y : Int32) : Met l yX3_isPlayed wsX3_isPlayed ({ frames := 1, cells := 0, slots := 0, locals := 21 } : Room) (va_Pc [.ref (ta G t (0)), .int x, .int y] (PW G (tw G Z t τ))) (oR (some (.int (bI (oPlN τ x y nO))))) 0 0 (fun _ => False) := by
  refine o_body (cc := cX3_isPlayed) (by decide +kernel) rfl (Nat.le_of_ble_eq_true rfl) ?_
  intro p e s m below meth c ls hx hb hml hr hlocks hown hts hP hK hN hl
  have hown : s.vm.findClass RX3 = some m.cls := hown
  have hl : lv_has ls 4 [(0, .ref (ta G t (0))), (1, .int x), (2, .int y)] := hl
  obtain ⟨hz1, hz2, hz3, hz4, hz5, hz6, hz7⟩ := id hz
  refine lv_iconst (v := 0) hx hb dX3_isPlayed_0 (by decide) ?_
  refine lv_istore_n (lv' := [(3, .int 0), (0, .ref (ta G t (0))), (1, .int x), (2, .int y)]) hx hb dX3_isPlayed_1 rfl hl (by decide) rfl (fun ls hl => ?_)
  have lp2 : ∀ (d2 k : Nat), k + d2 = nO → ∀ x2_3 : Int32, x2_3 = (nI k) → (oPlN τ x y k = false) → ∀ ls : Array Slot, lv_has ls 4 [(0, .ref (ta G t (0))), (1, .int x), (2, .int y), (3, .int x2_3)] → W p l e ({ frames := 1, cells := 0, slots := 0, locals := 21 } : Room) s m ([.ref (ta G t (0)), .int x, .int y] : List Value).toArray below meth c s.heap [] 0 0 (MQ below (oR (some (.int (bI (oPlN τ x y nO))))) ([.ref (ta G t (0)), .int x, .int y] : List Value).toArray s 0 0 (fun _ => False)) (F0 m 2 ls []) := by
    intro d2
    induction d2 with
    | zero =>
      intro k hk2 x2_3 e2_3 hq ls hl
      subst e2_3
      have hk2 : k = nO := by omega
      refine lv_iload_n hx hb dX3_isPlayed_2 rfl (lv_at hl 3 rfl) ?_
      refine lv_aload_n hx hb dX3_isPlayed_3 rfl (lv_at hl 0 rfl) ?_
      refine va_get (D := G.1) (ci := 5) (v := .int (τ 18 0 1)) (C := RX3) (T := TX3) (N := 5) hx hb hts (fun w9 h9 => List.mem_cons_of_mem _ (List.mem_append_left _ (List.mem_append_right _ (h9)))) hown hK hP (1 + 67 * t + (0)) (tw_T G Z ht τ) rfl 3 (by decide) (hts (.fieldLink RX3 29 "OrganCensus$Town" "organCount" "I") (List.mem_of_getElem? (i := 1) rfl)) (fun _ h9 => h9) rfl dX3_isPlayed_4 ?_
      refine lv_icmp_ge (tgt := 44) hx hb dX3_isPlayed_7 (by decide) (fun c7 => ?_) (fun c7 => ?_)
      · have n7 := (o_nle (a := nO) (b := k) hz.2.2.1 rfl (by omega) (by omega)).mp c7
        refine lv_iconst (v := 0) hx hb dX3_isPlayed_44 (by decide) ?_
        exact o_zretR hx hb hr hlocks dX3_isPlayed_45 (by first | exact Or.inl rfl | exact Or.inr rfl) (by rw [← hk2, hq, bI_f])
      · have n7 := (mt (o_nle (a := nO) (b := k) hz.2.2.1 rfl (by omega) (by omega)).mpr) c7; omega
    | succ d2 ih2 =>
      intro k hk2 x2_3 e2_3 hq ls hl
      subst e2_3
      have hj2 : k < nO := by omega
      refine lv_iload_n hx hb dX3_isPlayed_2 rfl (lv_at hl 3 rfl) ?_
      refine lv_aload_n hx hb dX3_isPlayed_3 rfl (lv_at hl 0 rfl) ?_
      refine va_get (D := G.1) (ci := 5) (v := .int (τ 18 0 1)) (C := RX3) (T := TX3) (N := 5) hx hb hts (fun w9 h9 => List.mem_cons_of_mem _ (List.mem_append_left _ (List.mem_append_right _ (h9)))) hown hK hP (1 + 67 * t + (0)) (tw_T G Z ht τ) rfl 3 (by decide) (hts (.fieldLink RX3 29 "OrganCensus$Town" "organCount" "I") (List.mem_of_getElem? (i := 1) rfl)) (fun _ h9 => h9) rfl dX3_isPlayed_4 ?_
      refine lv_icmp_ge (tgt := 44) hx hb dX3_isPlayed_7 (by decide) (fun c7 => ?_) (fun c7 => ?_)
      · have n7 := (o_nle (a := nO) (b := k) hz.2.2.1 rfl (by omega) (by omega)).mp c7; omega
      · have n7 := (mt (o_nle (a := nO) (b := k) hz.2.2.1 rfl (by omega) (by omega)).mpr) c7
        refine lv_aload_n hx hb dX3_isPlayed_10 rfl (lv_at hl 0 rfl) ?_
        refine va_get (D := G.1) (ci := 5) (v := .ref (ta G t (2))) (C := RX3) (T := TX3) (N := 5) hx hb hts (fun w9 h9 => List.mem_cons_of_mem _ (List.mem_append_left _ (List.mem_append_right _ (h9)))) hown hK hP (1 + 67 * t + (0)) (tw_T G Z ht τ) rfl 1 (by decide) (hts (.fieldLink RX3 19 "OrganCensus$Town" "organs" "[LOrganCensus$Organ;") (List.mem_of_getElem? (i := 2) rfl)) (fun _ h9 => h9) rfl dX3_isPlayed_11 ?_
        refine lv_iload_n hx hb dX3_isPlayed_14 rfl (lv_at hl 3 rfl) ?_
        refine o_aald (k := k) (C := RX0) hx hb hK hP (1 + 67 * t + (2)) 2 (tw_OA G Z ht τ) rfl rfl (by omega) (by decide) rfl dX3_isPlayed_15 ?_
        refine lv_iload_n hx hb dX3_isPlayed_16 rfl (lv_at hl 1 rfl) ?_
        refine o_cVi (q0 := 1 + 67 * t + (27 + 5 * k)) (ci := 2) [.int x] [] ⟨hx, hb, hml, hown, hts⟩ (m_X0_standsIn l G Z ht τ k (by omega) x) (cwV 1 hts gX3_isPlayed_X0_standsIn rfl rfl rfl (by decide +kernel) ⟨Nat.le_of_ble_eq_true rfl, Nat.le_of_ble_eq_true rfl⟩) hK hN hP rfl rfl (tw_O G Z ht τ (by omega)) rfl hl.1 rfl (Nat.le_of_ble_eq_true rfl) dX3_isPlayed_17 ⟨Nat.zero_le _, Nat.zero_le _⟩ ?_
        refine lv_if_eq (tgt := 38) hx hb dX3_isPlayed_20 (by decide) (fun c20 => ?_) (fun c20 => ?_)
        · have c20 := bI_eq.mp c20
          refine lv_iinc (v := nI (k + 1)) (lv' := [(3, .int (nI (k + 1))), (0, .ref (ta G t (0))), (1, .int x), (2, .int y)]) hx hb dX3_isPlayed_38 hl (k := 3) rfl (nI_1 k) (by decide) rfl (fun ls hl => ?_)
          refine lv_goto (tgt := 2) hx hb dX3_isPlayed_41 (by decide) ?_
          exact ih2 (k + 1) (by omega) _ (rfl) (by simp [oPlN, hq, c7, c20]) ls (lv_sub hl [1, 2, 3, 0] rfl)
        · have c20 := bI_ne.mp c20
          refine lv_aload_n hx hb dX3_isPlayed_23 rfl (lv_at hl 0 rfl) ?_
          refine va_get (D := G.1) (ci := 5) (v := .ref (ta G t (2))) (C := RX3) (T := TX3) (N := 5) hx hb hts (fun w9 h9 => List.mem_cons_of_mem _ (List.mem_append_left _ (List.mem_append_right _ (h9)))) hown hK hP (1 + 67 * t + (0)) (tw_T G Z ht τ) rfl 1 (by decide) (hts (.fieldLink RX3 19 "OrganCensus$Town" "organs" "[LOrganCensus$Organ;") (List.mem_of_getElem? (i := 2) rfl)) (fun _ h9 => h9) rfl dX3_isPlayed_24 ?_
          refine lv_iload_n hx hb dX3_isPlayed_27 rfl (lv_at hl 3 rfl) ?_
          refine o_aald (k := k) (C := RX0) hx hb hK hP (1 + 67 * t + (2)) 2 (tw_OA G Z ht τ) rfl rfl (by omega) (by decide) rfl dX3_isPlayed_28 ?_
          refine o_cVi (q0 := 1 + 67 * t + (27 + 5 * k)) (ci := 2) [] [] ⟨hx, hb, hml, hown, hts⟩ (m_X0_nextTune l G Z ht τ k (by omega)) (cwV 0 hts gX3_isPlayed_X0_nextTune rfl rfl rfl (by decide +kernel) ⟨Nat.le_of_ble_eq_true rfl, Nat.le_of_ble_eq_true rfl⟩) hK hN hP rfl rfl (tw_O G Z ht τ (by omega)) rfl hl.1 rfl (Nat.le_of_ble_eq_true rfl) dX3_isPlayed_29 ⟨Nat.zero_le _, Nat.zero_le _⟩ ?_
          refine lv_iload_n hx hb dX3_isPlayed_32 rfl (lv_at hl 2 rfl) ?_
          refine lv_icmp_ne (tgt := 38) hx hb dX3_isPlayed_33 (by decide) (fun c33 => ?_) (fun c33 => ?_)
          · refine lv_iinc (v := nI (k + 1)) (lv' := [(3, .int (nI (k + 1))), (0, .ref (ta G t (0))), (1, .int x), (2, .int y)]) hx hb dX3_isPlayed_38 hl (k := 3) rfl (nI_1 k) (by decide) rfl (fun ls hl => ?_)
            refine lv_goto (tgt := 2) hx hb dX3_isPlayed_41 (by decide) ?_
            exact ih2 (k + 1) (by omega) _ (rfl) (by simp [oPlN, hq, c7, c20, c33]) ls (lv_sub hl [1, 2, 3, 0] rfl)
          · refine lv_iconst (v := 1) hx hb dX3_isPlayed_36 (by decide) ?_
            exact o_zretR hx hb hr hlocks dX3_isPlayed_37 (by first | exact Or.inl rfl | exact Or.inr rfl) (by rw [oPlN_mono τ x y (k := k + 1) (by simp [oPlN, c7, c20, c33]) (by omega), bI_t])
  exact lp2 (nO) 0 (by omega) _ (rfl) (rfl) ls (lv_sub hl [1, 2, 3, 0] rfl)
set_option maxHeartbeats 4000000 in
set_option maxRecDepth 100000 in
theorem m_X3_standingOfAll (l : Launch) (G : oG) (Z : oZ) {t : Nat} (ht : t < 2) (τ : oT) (nS : Nat) (nO : Nat) (nH : Nat) (hz : oOK τ nS nO nH) : Met l yX3_standingOfAll wsX3_standingOfAll ({ frames := 2, cells := 0, slots := 0, locals := 44 } : Room) (va_Pc [.ref (ta G t (0))] (PW G (tw G Z t τ))) (oR (some (.int (oStandA τ nO nS)))) 0 0 (fun _ => False) := by
  refine o_body (cc := cX3_standingOfAll) (by decide +kernel) rfl (Nat.le_of_ble_eq_true rfl) ?_
  intro p e s m below meth c ls hx hb hml hr hlocks hown hts hP hK hN hl
  have hown : s.vm.findClass RX3 = some m.cls := hown
  have hl : lv_has ls 3 [(0, .ref (ta G t (0)))] := hl
  obtain ⟨hz1, hz2, hz3, hz4, hz5, hz6, hz7⟩ := id hz
  refine lv_iconst (v := 0) hx hb dX3_standingOfAll_0 (by decide) ?_
  refine lv_istore_n (lv' := [(1, .int 0), (0, .ref (ta G t (0)))]) hx hb dX3_standingOfAll_1 rfl hl (by decide) rfl (fun ls hl => ?_)
  refine lv_iconst (v := 0) hx hb dX3_standingOfAll_2 (by decide) ?_
  refine lv_istore_n (lv' := [(2, .int 0), (1, .int 0), (0, .ref (ta G t (0)))]) hx hb dX3_standingOfAll_3 rfl hl (by decide) rfl (fun ls hl => ?_)
  have lp4 : ∀ (d4 k : Nat), k + d4 = nS → ∀ x4_1 : Int32, x4_1 = (oStandA τ nO k) → ∀ x4_2 : Int32, x4_2 = (nI k) → ∀ ls : Array Slot, lv_has ls 3 [(0, .ref (ta G t (0))), (1, .int x4_1), (2, .int x4_2)] → W p l e ({ frames := 2, cells := 0, slots := 0, locals := 44 } : Room) s m ([.ref (ta G t (0))] : List Value).toArray below meth c s.heap [] 0 0 (MQ below (oR (some (.int (oStandA τ nO nS)))) ([.ref (ta G t (0))] : List Value).toArray s 0 0 (fun _ => False)) (F0 m 4 ls []) := by
    intro d4
    induction d4 with
    | zero =>
      intro k hk4 x4_1 e4_1 x4_2 e4_2 ls hl
      subst e4_1
      subst e4_2
      have hk4 : k = nS := by omega
      refine lv_iload_n hx hb dX3_standingOfAll_4 rfl (lv_at hl 2 rfl) ?_
      refine lv_aload_n hx hb dX3_standingOfAll_5 rfl (lv_at hl 0 rfl) ?_
      refine va_get (D := G.1) (ci := 5) (v := .int (τ 18 0 0)) (C := RX3) (T := TX3) (N := 5) hx hb hts (fun w9 h9 => List.mem_cons_of_mem _ (List.mem_append_left _ (List.mem_append_right _ (h9)))) hown hK hP (1 + 67 * t + (0)) (tw_T G Z ht τ) rfl 2 (by decide) (hts (.fieldLink RX3 25 "OrganCensus$Town" "streetCount" "I") (List.mem_of_getElem? (i := 1) rfl)) (fun _ h9 => h9) rfl dX3_standingOfAll_6 ?_
      refine lv_icmp_ge (tgt := 26) hx hb dX3_standingOfAll_9 (by decide) (fun c9 => ?_) (fun c9 => ?_)
      · have n9 := (o_nle (a := nS) (b := k) hz.1 rfl (by omega) (by omega)).mp c9
        refine lv_iload_n hx hb dX3_standingOfAll_26 rfl (lv_at hl 1 rfl) ?_
        exact o_iretR hx hb hr hlocks dX3_standingOfAll_27 (by rw [hk4])
      · have n9 := (mt (o_nle (a := nS) (b := k) hz.1 rfl (by omega) (by omega)).mpr) c9; omega
    | succ d4 ih4 =>
      intro k hk4 x4_1 e4_1 x4_2 e4_2 ls hl
      subst e4_1
      subst e4_2
      have hj4 : k < nS := by omega
      refine lv_iload_n hx hb dX3_standingOfAll_4 rfl (lv_at hl 2 rfl) ?_
      refine lv_aload_n hx hb dX3_standingOfAll_5 rfl (lv_at hl 0 rfl) ?_
      refine va_get (D := G.1) (ci := 5) (v := .int (τ 18 0 0)) (C := RX3) (T := TX3) (N := 5) hx hb hts (fun w9 h9 => List.mem_cons_of_mem _ (List.mem_append_left _ (List.mem_append_right _ (h9)))) hown hK hP (1 + 67 * t + (0)) (tw_T G Z ht τ) rfl 2 (by decide) (hts (.fieldLink RX3 25 "OrganCensus$Town" "streetCount" "I") (List.mem_of_getElem? (i := 1) rfl)) (fun _ h9 => h9) rfl dX3_standingOfAll_6 ?_
      refine lv_icmp_ge (tgt := 26) hx hb dX3_standingOfAll_9 (by decide) (fun c9 => ?_) (fun c9 => ?_)
      · have n9 := (o_nle (a := nS) (b := k) hz.1 rfl (by omega) (by omega)).mp c9; omega
      · have n9 := (mt (o_nle (a := nS) (b := k) hz.1 rfl (by omega) (by omega)).mpr) c9
        refine lv_iload_n hx hb dX3_standingOfAll_12 rfl (lv_at hl 1 rfl) ?_
        refine lv_aload_n hx hb dX3_standingOfAll_13 rfl (lv_at hl 0 rfl) ?_
        refine lv_iload_n hx hb dX3_standingOfAll_14 rfl (lv_at hl 2 rfl) ?_
        refine o_cVi (q0 := 1 + 67 * t + (0)) (ci := 5) [.int (nI k)] [.int (oStandA τ nO k)] ⟨hx, hb, hml, hown, hts⟩ (m_X3_standingIn l G Z ht τ nS nO nH hz (nI k)) (cwV 1 hts gX3_standingOfAll_X3_standingIn rfl rfl rfl (by decide +kernel) ⟨Nat.le_of_ble_eq_true rfl, Nat.le_of_ble_eq_true rfl⟩) hK hN hP rfl rfl (tw_T G Z ht τ) rfl hl.1 rfl (Nat.le_of_ble_eq_true rfl) dX3_standingOfAll_15 ⟨Nat.zero_le _, Nat.zero_le _⟩ ?_
        refine lv_iadd hx hb dX3_standingOfAll_18 ?_
        refine lv_istore_n (lv' := [(1, .int ((oStandA τ nO k) + (oStandN τ (nI k) nO))), (0, .ref (ta G t (0))), (2, .int (nI k))]) hx hb dX3_standingOfAll_19 rfl hl (by decide) rfl (fun ls hl => ?_)
        refine lv_iinc (v := nI (k + 1)) (lv' := [(2, .int (nI (k + 1))), (1, .int ((oStandA τ nO k) + (oStandN τ (nI k) nO))), (0, .ref (ta G t (0)))]) hx hb dX3_standingOfAll_20 hl (k := 2) rfl (nI_1 k) (by decide) rfl (fun ls hl => ?_)
        refine lv_goto (tgt := 4) hx hb dX3_standingOfAll_23 (by decide) ?_
        exact ih4 (k + 1) (by omega) _ (rfl) _ (rfl) ls (lv_sub hl [2, 1, 0] rfl)
  exact lp4 (nS) 0 (by omega) _ (rfl) _ (rfl) ls (lv_sub hl [2, 1, 0] rfl)
set_option maxHeartbeats 4000000 in
set_option maxRecDepth 100000 in
theorem m_X3_complaintsOfAll (l : Launch) (G : oG) (Z : oZ) {t : Nat} (ht : t < 2) (τ : oT) (nS : Nat) (nO : Nat) (nH : Nat) (hz : oOK τ nS nO nH) : Met l yX3_complaintsOfAll wsX3_complaintsOfAll ({ frames := 1, cells := 0, slots := 0, locals := 23 } : Room) (va_Pc [.ref (ta G t (0))] (PW G (tw G Z t τ))) (oR (some (.int (oComplA τ nO nS)))) 0 0 (fun _ => False) := by
  refine o_body (cc := cX3_complaintsOfAll) (by decide +kernel) rfl (Nat.le_of_ble_eq_true rfl) ?_
  intro p e s m below meth c ls hx hb hml hr hlocks hown hts hP hK hN hl
  have hown : s.vm.findClass RX3 = some m.cls := hown
  have hl : lv_has ls 3 [(0, .ref (ta G t (0)))] := hl
  obtain ⟨hz1, hz2, hz3, hz4, hz5, hz6, hz7⟩ := id hz
  refine lv_iconst (v := 0) hx hb dX3_complaintsOfAll_0 (by decide) ?_
  refine lv_istore_n (lv' := [(1, .int 0), (0, .ref (ta G t (0)))]) hx hb dX3_complaintsOfAll_1 rfl hl (by decide) rfl (fun ls hl => ?_)
  refine lv_iconst (v := 0) hx hb dX3_complaintsOfAll_2 (by decide) ?_
  refine lv_istore_n (lv' := [(2, .int 0), (1, .int 0), (0, .ref (ta G t (0)))]) hx hb dX3_complaintsOfAll_3 rfl hl (by decide) rfl (fun ls hl => ?_)
  have lp4 : ∀ (d4 k : Nat), k + d4 = nS → ∀ x4_1 : Int32, x4_1 = (oComplA τ nO k) → ∀ x4_2 : Int32, x4_2 = (nI k) → ∀ ls : Array Slot, lv_has ls 3 [(0, .ref (ta G t (0))), (1, .int x4_1), (2, .int x4_2)] → W p l e ({ frames := 1, cells := 0, slots := 0, locals := 23 } : Room) s m ([.ref (ta G t (0))] : List Value).toArray below meth c s.heap [] 0 0 (MQ below (oR (some (.int (oComplA τ nO nS)))) ([.ref (ta G t (0))] : List Value).toArray s 0 0 (fun _ => False)) (F0 m 4 ls []) := by
    intro d4
    induction d4 with
    | zero =>
      intro k hk4 x4_1 e4_1 x4_2 e4_2 ls hl
      subst e4_1
      subst e4_2
      have hk4 : k = nS := by omega
      refine lv_iload_n hx hb dX3_complaintsOfAll_4 rfl (lv_at hl 2 rfl) ?_
      refine lv_aload_n hx hb dX3_complaintsOfAll_5 rfl (lv_at hl 0 rfl) ?_
      refine va_get (D := G.1) (ci := 5) (v := .int (τ 18 0 0)) (C := RX3) (T := TX3) (N := 5) hx hb hts (fun w9 h9 => List.mem_cons_of_mem _ (List.mem_append_left _ (List.mem_append_right _ (h9)))) hown hK hP (1 + 67 * t + (0)) (tw_T G Z ht τ) rfl 2 (by decide) (hts (.fieldLink RX3 25 "OrganCensus$Town" "streetCount" "I") (List.mem_of_getElem? (i := 1) rfl)) (fun _ h9 => h9) rfl dX3_complaintsOfAll_6 ?_
      refine lv_icmp_ge (tgt := 26) hx hb dX3_complaintsOfAll_9 (by decide) (fun c9 => ?_) (fun c9 => ?_)
      · have n9 := (o_nle (a := nS) (b := k) hz.1 rfl (by omega) (by omega)).mp c9
        refine lv_iload_n hx hb dX3_complaintsOfAll_26 rfl (lv_at hl 1 rfl) ?_
        exact o_iretR hx hb hr hlocks dX3_complaintsOfAll_27 (by rw [hk4])
      · have n9 := (mt (o_nle (a := nS) (b := k) hz.1 rfl (by omega) (by omega)).mpr) c9; omega
    | succ d4 ih4 =>
      intro k hk4 x4_1 e4_1 x4_2 e4_2 ls hl
      subst e4_1
      subst e4_2
      have hj4 : k < nS := by omega
      refine lv_iload_n hx hb dX3_complaintsOfAll_4 rfl (lv_at hl 2 rfl) ?_
      refine lv_aload_n hx hb dX3_complaintsOfAll_5 rfl (lv_at hl 0 rfl) ?_
      refine va_get (D := G.1) (ci := 5) (v := .int (τ 18 0 0)) (C := RX3) (T := TX3) (N := 5) hx hb hts (fun w9 h9 => List.mem_cons_of_mem _ (List.mem_append_left _ (List.mem_append_right _ (h9)))) hown hK hP (1 + 67 * t + (0)) (tw_T G Z ht τ) rfl 2 (by decide) (hts (.fieldLink RX3 25 "OrganCensus$Town" "streetCount" "I") (List.mem_of_getElem? (i := 1) rfl)) (fun _ h9 => h9) rfl dX3_complaintsOfAll_6 ?_
      refine lv_icmp_ge (tgt := 26) hx hb dX3_complaintsOfAll_9 (by decide) (fun c9 => ?_) (fun c9 => ?_)
      · have n9 := (o_nle (a := nS) (b := k) hz.1 rfl (by omega) (by omega)).mp c9; omega
      · have n9 := (mt (o_nle (a := nS) (b := k) hz.1 rfl (by omega) (by omega)).mpr) c9
        refine lv_iload_n hx hb dX3_complaintsOfAll_12 rfl (lv_at hl 1 rfl) ?_
        refine lv_aload_n hx hb dX3_complaintsOfAll_13 rfl (lv_at hl 0 rfl) ?_
        refine lv_iload_n hx hb dX3_complaintsOfAll_14 rfl (lv_at hl 2 rfl) ?_
        refine o_cVi (q0 := 1 + 67 * t + (0)) (ci := 5) [.int (nI k)] [.int (oComplA τ nO k)] ⟨hx, hb, hml, hown, hts⟩ (m_X3_complaintsIn l G Z ht τ nS nO nH hz k (nI k) (rfl) (by omega)) (cwV 1 hts gX3_complaintsOfAll_X3_complaintsIn rfl rfl rfl (by decide +kernel) ⟨Nat.le_of_ble_eq_true rfl, Nat.le_of_ble_eq_true rfl⟩) hK hN hP rfl rfl (tw_T G Z ht τ) rfl hl.1 rfl (Nat.le_of_ble_eq_true rfl) dX3_complaintsOfAll_15 ⟨Nat.zero_le _, Nat.zero_le _⟩ ?_
        refine lv_iadd hx hb dX3_complaintsOfAll_18 ?_
        refine lv_istore_n (lv' := [(1, .int ((oComplA τ nO k) + (oComplN τ k nO))), (0, .ref (ta G t (0))), (2, .int (nI k))]) hx hb dX3_complaintsOfAll_19 rfl hl (by decide) rfl (fun ls hl => ?_)
        refine lv_iinc (v := nI (k + 1)) (lv' := [(2, .int (nI (k + 1))), (1, .int ((oComplA τ nO k) + (oComplN τ k nO))), (0, .ref (ta G t (0)))]) hx hb dX3_complaintsOfAll_20 hl (k := 2) rfl (nI_1 k) (by decide) rfl (fun ls hl => ?_)
        refine lv_goto (tgt := 4) hx hb dX3_complaintsOfAll_23 (by decide) ?_
        exact ih4 (k + 1) (by omega) _ (rfl) _ (rfl) ls (lv_sub hl [2, 1, 0] rfl)
  exact lp4 (nS) 0 (by omega) _ (rfl) _ (rfl) ls (lv_sub hl [2, 1, 0] rfl)
set_option maxHeartbeats 4000000 in
set_option maxRecDepth 100000 in
theorem m_X3_coinsOfAll (l : Launch) (G : oG) (Z : oZ) {t : Nat} (ht : t < 2) (τ : oT) (nS : Nat) (nO : Nat) (nH : Nat) (hz : oOK τ nS nO nH) : Met l yX3_coinsOfAll wsX3_coinsOfAll ({ frames := 0, cells := 0, slots := 0, locals := 0 } : Room) (va_Pc [.ref (ta G t (0))] (PW G (tw G Z t τ))) (oR (some (.int (oCoinsA τ nO)))) 0 0 (fun _ => False) := by
  refine o_body (cc := cX3_coinsOfAll) (by decide +kernel) rfl (Nat.le_of_ble_eq_true rfl) ?_
  intro p e s m below meth c ls hx hb hml hr hlocks hown hts hP hK hN hl
  have hown : s.vm.findClass RX3 = some m.cls := hown
  have hl : lv_has ls 3 [(0, .ref (ta G t (0)))] := hl
  obtain ⟨hz1, hz2, hz3, hz4, hz5, hz6, hz7⟩ := id hz
  refine lv_iconst (v := 0) hx hb dX3_coinsOfAll_0 (by decide) ?_
  refine lv_istore_n (lv' := [(1, .int 0), (0, .ref (ta G t (0)))]) hx hb dX3_coinsOfAll_1 rfl hl (by decide) rfl (fun ls hl => ?_)
  refine lv_iconst (v := 0) hx hb dX3_coinsOfAll_2 (by decide) ?_
  refine lv_istore_n (lv' := [(2, .int 0), (1, .int 0), (0, .ref (ta G t (0)))]) hx hb dX3_coinsOfAll_3 rfl hl (by decide) rfl (fun ls hl => ?_)
  have lp4 : ∀ (d4 k : Nat), k + d4 = nO → ∀ x4_1 : Int32, x4_1 = (oCoinsA τ k) → ∀ x4_2 : Int32, x4_2 = (nI k) → ∀ ls : Array Slot, lv_has ls 3 [(0, .ref (ta G t (0))), (1, .int x4_1), (2, .int x4_2)] → W p l e ({ frames := 0, cells := 0, slots := 0, locals := 0 } : Room) s m ([.ref (ta G t (0))] : List Value).toArray below meth c s.heap [] 0 0 (MQ below (oR (some (.int (oCoinsA τ nO)))) ([.ref (ta G t (0))] : List Value).toArray s 0 0 (fun _ => False)) (F0 m 4 ls []) := by
    intro d4
    induction d4 with
    | zero =>
      intro k hk4 x4_1 e4_1 x4_2 e4_2 ls hl
      subst e4_1
      subst e4_2
      have hk4 : k = nO := by omega
      refine lv_iload_n hx hb dX3_coinsOfAll_4 rfl (lv_at hl 2 rfl) ?_
      refine lv_aload_n hx hb dX3_coinsOfAll_5 rfl (lv_at hl 0 rfl) ?_
      refine va_get (D := G.1) (ci := 5) (v := .int (τ 18 0 1)) (C := RX3) (T := TX3) (N := 5) hx hb hts (fun w9 h9 => List.mem_cons_of_mem _ (List.mem_append_left _ (List.mem_append_right _ (h9)))) hown hK hP (1 + 67 * t + (0)) (tw_T G Z ht τ) rfl 3 (by decide) (hts (.fieldLink RX3 29 "OrganCensus$Town" "organCount" "I") (List.mem_of_getElem? (i := 1) rfl)) (fun _ h9 => h9) rfl dX3_coinsOfAll_6 ?_
      refine lv_icmp_ge (tgt := 30) hx hb dX3_coinsOfAll_9 (by decide) (fun c9 => ?_) (fun c9 => ?_)
      · have n9 := (o_nle (a := nO) (b := k) hz.2.2.1 rfl (by omega) (by omega)).mp c9
        refine lv_iload_n hx hb dX3_coinsOfAll_30 rfl (lv_at hl 1 rfl) ?_
        exact o_iretR hx hb hr hlocks dX3_coinsOfAll_31 (by rw [hk4])
      · have n9 := (mt (o_nle (a := nO) (b := k) hz.2.2.1 rfl (by omega) (by omega)).mpr) c9; omega
    | succ d4 ih4 =>
      intro k hk4 x4_1 e4_1 x4_2 e4_2 ls hl
      subst e4_1
      subst e4_2
      have hj4 : k < nO := by omega
      refine lv_iload_n hx hb dX3_coinsOfAll_4 rfl (lv_at hl 2 rfl) ?_
      refine lv_aload_n hx hb dX3_coinsOfAll_5 rfl (lv_at hl 0 rfl) ?_
      refine va_get (D := G.1) (ci := 5) (v := .int (τ 18 0 1)) (C := RX3) (T := TX3) (N := 5) hx hb hts (fun w9 h9 => List.mem_cons_of_mem _ (List.mem_append_left _ (List.mem_append_right _ (h9)))) hown hK hP (1 + 67 * t + (0)) (tw_T G Z ht τ) rfl 3 (by decide) (hts (.fieldLink RX3 29 "OrganCensus$Town" "organCount" "I") (List.mem_of_getElem? (i := 1) rfl)) (fun _ h9 => h9) rfl dX3_coinsOfAll_6 ?_
      refine lv_icmp_ge (tgt := 30) hx hb dX3_coinsOfAll_9 (by decide) (fun c9 => ?_) (fun c9 => ?_)
      · have n9 := (o_nle (a := nO) (b := k) hz.2.2.1 rfl (by omega) (by omega)).mp c9; omega
      · have n9 := (mt (o_nle (a := nO) (b := k) hz.2.2.1 rfl (by omega) (by omega)).mpr) c9
        refine lv_iload_n hx hb dX3_coinsOfAll_12 rfl (lv_at hl 1 rfl) ?_
        refine lv_aload_n hx hb dX3_coinsOfAll_13 rfl (lv_at hl 0 rfl) ?_
        refine va_get (D := G.1) (ci := 5) (v := .ref (ta G t (2))) (C := RX3) (T := TX3) (N := 5) hx hb hts (fun w9 h9 => List.mem_cons_of_mem _ (List.mem_append_left _ (List.mem_append_right _ (h9)))) hown hK hP (1 + 67 * t + (0)) (tw_T G Z ht τ) rfl 1 (by decide) (hts (.fieldLink RX3 19 "OrganCensus$Town" "organs" "[LOrganCensus$Organ;") (List.mem_of_getElem? (i := 2) rfl)) (fun _ h9 => h9) rfl dX3_coinsOfAll_14 ?_
        refine lv_iload_n hx hb dX3_coinsOfAll_17 rfl (lv_at hl 2 rfl) ?_
        refine o_aald (k := k) (C := RX0) hx hb hK hP (1 + 67 * t + (2)) 2 (tw_OA G Z ht τ) rfl rfl (by omega) (by decide) rfl dX3_coinsOfAll_18 ?_
        refine va_get (D := G.1) (ci := 2) (v := .int (τ 14 k 0)) (C := RX0) (T := TX0) (N := 12) hx hb hts (fun w9 h9 => List.mem_cons_of_mem _ (List.mem_append_right _ (h9))) hown hK hP (1 + 67 * t + (27 + 5 * k)) (tw_O G Z ht τ (by omega)) rfl 8 (by decide) (hts (.fieldLink RX3 60 "OrganCensus$Organ" "coins" "I") (List.mem_of_getElem? (i := 3) rfl)) (fun _ h9 => h9) rfl dX3_coinsOfAll_19 ?_
        refine lv_iadd hx hb dX3_coinsOfAll_22 ?_
        refine lv_istore_n (lv' := [(1, .int ((oCoinsA τ k) + (τ 14 k 0))), (0, .ref (ta G t (0))), (2, .int (nI k))]) hx hb dX3_coinsOfAll_23 rfl hl (by decide) rfl (fun ls hl => ?_)
        refine lv_iinc (v := nI (k + 1)) (lv' := [(2, .int (nI (k + 1))), (1, .int ((oCoinsA τ k) + (τ 14 k 0))), (0, .ref (ta G t (0)))]) hx hb dX3_coinsOfAll_24 hl (k := 2) rfl (nI_1 k) (by decide) rfl (fun ls hl => ?_)
        refine lv_goto (tgt := 4) hx hb dX3_coinsOfAll_27 (by decide) ?_
        exact ih4 (k + 1) (by omega) _ (rfl) _ (rfl) ls (lv_sub hl [2, 1, 0] rfl)
  exact lp4 (nO) 0 (by omega) _ (rfl) _ (rfl) ls (lv_sub hl [2, 1, 0] rfl)
set_option maxHeartbeats 4000000 in
set_option maxRecDepth 100000 in
theorem m_X3_banishmentsOfAll (l : Launch) (G : oG) (Z : oZ) {t : Nat} (ht : t < 2) (τ : oT) (nS : Nat) (nO : Nat) (nH : Nat) (hz : oOK τ nS nO nH) : Met l yX3_banishmentsOfAll wsX3_banishmentsOfAll ({ frames := 1, cells := 0, slots := 0, locals := 22 } : Room) (va_Pc [.ref (ta G t (0))] (PW G (tw G Z t τ))) (oR (some (.int (oBanA τ nO)))) 0 0 (fun _ => False) := by
  refine o_body (cc := cX3_banishmentsOfAll) (by decide +kernel) rfl (Nat.le_of_ble_eq_true rfl) ?_
  intro p e s m below meth c ls hx hb hml hr hlocks hown hts hP hK hN hl
  have hown : s.vm.findClass RX3 = some m.cls := hown
  have hl : lv_has ls 3 [(0, .ref (ta G t (0)))] := hl
  obtain ⟨hz1, hz2, hz3, hz4, hz5, hz6, hz7⟩ := id hz
  refine lv_iconst (v := 0) hx hb dX3_banishmentsOfAll_0 (by decide) ?_
  refine lv_istore_n (lv' := [(1, .int 0), (0, .ref (ta G t (0)))]) hx hb dX3_banishmentsOfAll_1 rfl hl (by decide) rfl (fun ls hl => ?_)
  refine lv_iconst (v := 0) hx hb dX3_banishmentsOfAll_2 (by decide) ?_
  refine lv_istore_n (lv' := [(2, .int 0), (1, .int 0), (0, .ref (ta G t (0)))]) hx hb dX3_banishmentsOfAll_3 rfl hl (by decide) rfl (fun ls hl => ?_)
  have lp4 : ∀ (d4 k : Nat), k + d4 = nO → ∀ x4_1 : Int32, x4_1 = (oBanA τ k) → ∀ x4_2 : Int32, x4_2 = (nI k) → ∀ ls : Array Slot, lv_has ls 3 [(0, .ref (ta G t (0))), (1, .int x4_1), (2, .int x4_2)] → W p l e ({ frames := 1, cells := 0, slots := 0, locals := 22 } : Room) s m ([.ref (ta G t (0))] : List Value).toArray below meth c s.heap [] 0 0 (MQ below (oR (some (.int (oBanA τ nO)))) ([.ref (ta G t (0))] : List Value).toArray s 0 0 (fun _ => False)) (F0 m 4 ls []) := by
    intro d4
    induction d4 with
    | zero =>
      intro k hk4 x4_1 e4_1 x4_2 e4_2 ls hl
      subst e4_1
      subst e4_2
      have hk4 : k = nO := by omega
      refine lv_iload_n hx hb dX3_banishmentsOfAll_4 rfl (lv_at hl 2 rfl) ?_
      refine lv_aload_n hx hb dX3_banishmentsOfAll_5 rfl (lv_at hl 0 rfl) ?_
      refine va_get (D := G.1) (ci := 5) (v := .int (τ 18 0 1)) (C := RX3) (T := TX3) (N := 5) hx hb hts (fun w9 h9 => List.mem_cons_of_mem _ (List.mem_append_left _ (List.mem_append_right _ (h9)))) hown hK hP (1 + 67 * t + (0)) (tw_T G Z ht τ) rfl 3 (by decide) (hts (.fieldLink RX3 29 "OrganCensus$Town" "organCount" "I") (List.mem_of_getElem? (i := 1) rfl)) (fun _ h9 => h9) rfl dX3_banishmentsOfAll_6 ?_
      refine lv_icmp_ge (tgt := 30) hx hb dX3_banishmentsOfAll_9 (by decide) (fun c9 => ?_) (fun c9 => ?_)
      · have n9 := (o_nle (a := nO) (b := k) hz.2.2.1 rfl (by omega) (by omega)).mp c9
        refine lv_iload_n hx hb dX3_banishmentsOfAll_30 rfl (lv_at hl 1 rfl) ?_
        exact o_iretR hx hb hr hlocks dX3_banishmentsOfAll_31 (by rw [hk4])
      · have n9 := (mt (o_nle (a := nO) (b := k) hz.2.2.1 rfl (by omega) (by omega)).mpr) c9; omega
    | succ d4 ih4 =>
      intro k hk4 x4_1 e4_1 x4_2 e4_2 ls hl
      subst e4_1
      subst e4_2
      have hj4 : k < nO := by omega
      refine lv_iload_n hx hb dX3_banishmentsOfAll_4 rfl (lv_at hl 2 rfl) ?_
      refine lv_aload_n hx hb dX3_banishmentsOfAll_5 rfl (lv_at hl 0 rfl) ?_
      refine va_get (D := G.1) (ci := 5) (v := .int (τ 18 0 1)) (C := RX3) (T := TX3) (N := 5) hx hb hts (fun w9 h9 => List.mem_cons_of_mem _ (List.mem_append_left _ (List.mem_append_right _ (h9)))) hown hK hP (1 + 67 * t + (0)) (tw_T G Z ht τ) rfl 3 (by decide) (hts (.fieldLink RX3 29 "OrganCensus$Town" "organCount" "I") (List.mem_of_getElem? (i := 1) rfl)) (fun _ h9 => h9) rfl dX3_banishmentsOfAll_6 ?_
      refine lv_icmp_ge (tgt := 30) hx hb dX3_banishmentsOfAll_9 (by decide) (fun c9 => ?_) (fun c9 => ?_)
      · have n9 := (o_nle (a := nO) (b := k) hz.2.2.1 rfl (by omega) (by omega)).mp c9; omega
      · have n9 := (mt (o_nle (a := nO) (b := k) hz.2.2.1 rfl (by omega) (by omega)).mpr) c9
        refine lv_iload_n hx hb dX3_banishmentsOfAll_12 rfl (lv_at hl 1 rfl) ?_
        refine lv_aload_n hx hb dX3_banishmentsOfAll_13 rfl (lv_at hl 0 rfl) ?_
        refine va_get (D := G.1) (ci := 5) (v := .ref (ta G t (2))) (C := RX3) (T := TX3) (N := 5) hx hb hts (fun w9 h9 => List.mem_cons_of_mem _ (List.mem_append_left _ (List.mem_append_right _ (h9)))) hown hK hP (1 + 67 * t + (0)) (tw_T G Z ht τ) rfl 1 (by decide) (hts (.fieldLink RX3 19 "OrganCensus$Town" "organs" "[LOrganCensus$Organ;") (List.mem_of_getElem? (i := 2) rfl)) (fun _ h9 => h9) rfl dX3_banishmentsOfAll_14 ?_
        refine lv_iload_n hx hb dX3_banishmentsOfAll_17 rfl (lv_at hl 2 rfl) ?_
        refine o_aald (k := k) (C := RX0) hx hb hK hP (1 + 67 * t + (2)) 2 (tw_OA G Z ht τ) rfl rfl (by omega) (by decide) rfl dX3_banishmentsOfAll_18 ?_
        refine o_cVi (q0 := 1 + 67 * t + (27 + 5 * k)) (ci := 2) [] [.int (oBanA τ k)] ⟨hx, hb, hml, hown, hts⟩ (m_X0_banishedStreets l G Z ht τ k (by omega)) (cwV 0 hts gX3_banishmentsOfAll_X0_banishedStreets rfl rfl rfl (by decide +kernel) ⟨Nat.le_of_ble_eq_true rfl, Nat.le_of_ble_eq_true rfl⟩) hK hN hP rfl rfl (tw_O G Z ht τ (by omega)) rfl hl.1 rfl (Nat.le_of_ble_eq_true rfl) dX3_banishmentsOfAll_19 ⟨Nat.zero_le _, Nat.zero_le _⟩ ?_
        refine lv_iadd hx hb dX3_banishmentsOfAll_22 ?_
        refine lv_istore_n (lv' := [(1, .int ((oBanA τ k) + (oBS τ k 6))), (0, .ref (ta G t (0))), (2, .int (nI k))]) hx hb dX3_banishmentsOfAll_23 rfl hl (by decide) rfl (fun ls hl => ?_)
        refine lv_iinc (v := nI (k + 1)) (lv' := [(2, .int (nI (k + 1))), (1, .int ((oBanA τ k) + (oBS τ k 6))), (0, .ref (ta G t (0)))]) hx hb dX3_banishmentsOfAll_24 hl (k := 2) rfl (nI_1 k) (by decide) rfl (fun ls hl => ?_)
        refine lv_goto (tgt := 4) hx hb dX3_banishmentsOfAll_27 (by decide) ?_
        exact ih4 (k + 1) (by omega) _ (rfl) _ (rfl) ls (lv_sub hl [2, 1, 0] rfl)
  exact lp4 (nO) 0 (by omega) _ (rfl) _ (rfl) ls (lv_sub hl [2, 1, 0] rfl)
set_option maxHeartbeats 4000000 in
set_option maxRecDepth 100000 in
theorem m_X3_countOf (l : Launch) (G : oG) (Z : oZ) {t : Nat} (ht : t < 2) (τ : oT) (nS : Nat) (nO : Nat) (nH : Nat) (hz : oOK τ nS nO nH) (w : Nat) (aw : Int32) (ew : aw = nI w) (hw : w < 7) : Met l yX3_countOf wsX3_countOf ({ frames := 3, cells := 0, slots := 0, locals := 66 } : Room) (va_Pc [.ref (ta G t (0)), .int aw] (PW G (tw G Z t τ))) (oR (some (.int (oCount τ nS nO w)))) 0 0 (fun _ => False) := by
  subst ew
  refine o_body (cc := cX3_countOf) (by decide +kernel) rfl (Nat.le_of_ble_eq_true rfl) ?_
  intro p e s m below meth c ls hx hb hml hr hlocks hown hts hP hK hN hl
  have hown : s.vm.findClass RX3 = some m.cls := hown
  have hl : lv_has ls 2 [(0, .ref (ta G t (0))), (1, .int (nI w))] := hl
  obtain ⟨hz1, hz2, hz3, hz4, hz5, hz6, hz7⟩ := id hz
  refine lv_iload_n hx hb dX3_countOf_0 rfl (lv_at hl 1 rfl) ?_
  rcases (show w = 0 ∨ w = 1 ∨ w = 2 ∨ w = 3 ∨ w = 4 ∨ w = 5 ∨ w = 6 by omega) with rfl | rfl | rfl | rfl | rfl | rfl | rfl
  · refine lv_tableIn (off := 39) (tgt := 40) hx hb dX3_countOf_1 (by decide) (by decide) (by decide) (by decide) ?_
    refine lv_aload_n hx hb dX3_countOf_40 rfl (lv_at hl 0 rfl) ?_
    refine va_get (D := G.1) (ci := 5) (v := .int (τ 18 0 2)) (C := RX3) (T := TX3) (N := 5) hx hb hts (fun w9 h9 => List.mem_cons_of_mem _ (List.mem_append_left _ (List.mem_append_right _ (h9)))) hown hK hP (1 + 67 * t + (0)) (tw_T G Z ht τ) rfl 4 (by decide) (hts (.fieldLink RX3 32 "OrganCensus$Town" "hour" "I") (List.mem_of_getElem? (i := 1) rfl)) (fun _ h9 => h9) rfl dX3_countOf_41 ?_
    exact o_iretR hx hb hr hlocks dX3_countOf_44 (rfl)
  · refine lv_tableIn (off := 44) (tgt := 45) hx hb dX3_countOf_1 (by decide) (by decide) (by decide) (by decide) ?_
    refine lv_aload_n hx hb dX3_countOf_45 rfl (lv_at hl 0 rfl) ?_
    refine va_get (D := G.1) (ci := 5) (v := .int (τ 18 0 0)) (C := RX3) (T := TX3) (N := 5) hx hb hts (fun w9 h9 => List.mem_cons_of_mem _ (List.mem_append_left _ (List.mem_append_right _ (h9)))) hown hK hP (1 + 67 * t + (0)) (tw_T G Z ht τ) rfl 2 (by decide) (hts (.fieldLink RX3 25 "OrganCensus$Town" "streetCount" "I") (List.mem_of_getElem? (i := 2) rfl)) (fun _ h9 => h9) rfl dX3_countOf_46 ?_
    exact o_iretR hx hb hr hlocks dX3_countOf_49 (rfl)
  · refine lv_tableIn (off := 49) (tgt := 50) hx hb dX3_countOf_1 (by decide) (by decide) (by decide) (by decide) ?_
    refine lv_aload_n hx hb dX3_countOf_50 rfl (lv_at hl 0 rfl) ?_
    refine va_get (D := G.1) (ci := 5) (v := .int (τ 18 0 1)) (C := RX3) (T := TX3) (N := 5) hx hb hts (fun w9 h9 => List.mem_cons_of_mem _ (List.mem_append_left _ (List.mem_append_right _ (h9)))) hown hK hP (1 + 67 * t + (0)) (tw_T G Z ht τ) rfl 3 (by decide) (hts (.fieldLink RX3 29 "OrganCensus$Town" "organCount" "I") (List.mem_of_getElem? (i := 3) rfl)) (fun _ h9 => h9) rfl dX3_countOf_51 ?_
    exact o_iretR hx hb hr hlocks dX3_countOf_54 (rfl)
  · refine lv_tableIn (off := 54) (tgt := 55) hx hb dX3_countOf_1 (by decide) (by decide) (by decide) (by decide) ?_
    refine lv_aload_n hx hb dX3_countOf_55 rfl (lv_at hl 0 rfl) ?_
    refine o_cVi (q0 := 1 + 67 * t + (0)) (ci := 5) [] [] ⟨hx, hb, hml, hown, hts⟩ (m_X3_standingOfAll l G Z ht τ nS nO nH hz) (cwV 0 hts gX3_countOf_X3_standingOfAll rfl rfl rfl (by decide +kernel) ⟨Nat.le_of_ble_eq_true rfl, Nat.le_of_ble_eq_true rfl⟩) hK hN hP rfl rfl (tw_T G Z ht τ) rfl hl.1 rfl (Nat.le_of_ble_eq_true rfl) dX3_countOf_56 ⟨Nat.zero_le _, Nat.zero_le _⟩ ?_
    exact o_iretR hx hb hr hlocks dX3_countOf_59 (rfl)
  · refine lv_tableIn (off := 59) (tgt := 60) hx hb dX3_countOf_1 (by decide) (by decide) (by decide) (by decide) ?_
    refine lv_aload_n hx hb dX3_countOf_60 rfl (lv_at hl 0 rfl) ?_
    refine o_cVi (q0 := 1 + 67 * t + (0)) (ci := 5) [] [] ⟨hx, hb, hml, hown, hts⟩ (m_X3_coinsOfAll l G Z ht τ nS nO nH hz) (cwV 0 hts gX3_countOf_X3_coinsOfAll rfl rfl rfl (by decide +kernel) ⟨Nat.le_of_ble_eq_true rfl, Nat.le_of_ble_eq_true rfl⟩) hK hN hP rfl rfl (tw_T G Z ht τ) rfl hl.1 rfl (Nat.le_of_ble_eq_true rfl) dX3_countOf_61 ⟨Nat.zero_le _, Nat.zero_le _⟩ ?_
    exact o_iretR hx hb hr hlocks dX3_countOf_64 (rfl)
  · refine lv_tableIn (off := 64) (tgt := 65) hx hb dX3_countOf_1 (by decide) (by decide) (by decide) (by decide) ?_
    refine lv_aload_n hx hb dX3_countOf_65 rfl (lv_at hl 0 rfl) ?_
    refine o_cVi (q0 := 1 + 67 * t + (0)) (ci := 5) [] [] ⟨hx, hb, hml, hown, hts⟩ (m_X3_complaintsOfAll l G Z ht τ nS nO nH hz) (cwV 0 hts gX3_countOf_X3_complaintsOfAll rfl rfl rfl (by decide +kernel) ⟨Nat.le_of_ble_eq_true rfl, Nat.le_of_ble_eq_true rfl⟩) hK hN hP rfl rfl (tw_T G Z ht τ) rfl hl.1 rfl (Nat.le_of_ble_eq_true rfl) dX3_countOf_66 ⟨Nat.zero_le _, Nat.zero_le _⟩ ?_
    exact o_iretR hx hb hr hlocks dX3_countOf_69 (rfl)
  · refine lv_tableOut (tgt := 70) hx hb dX3_countOf_1 (by decide) (by decide) ?_
    refine lv_aload_n hx hb dX3_countOf_70 rfl (lv_at hl 0 rfl) ?_
    refine o_cVi (q0 := 1 + 67 * t + (0)) (ci := 5) [] [] ⟨hx, hb, hml, hown, hts⟩ (m_X3_banishmentsOfAll l G Z ht τ nS nO nH hz) (cwV 0 hts gX3_countOf_X3_banishmentsOfAll rfl rfl rfl (by decide +kernel) ⟨Nat.le_of_ble_eq_true rfl, Nat.le_of_ble_eq_true rfl⟩) hK hN hP rfl rfl (tw_T G Z ht τ) rfl hl.1 rfl (Nat.le_of_ble_eq_true rfl) dX3_countOf_71 ⟨Nat.zero_le _, Nat.zero_le _⟩ ?_
    exact o_iretR hx hb hr hlocks dX3_countOf_74 (rfl)
set_option maxHeartbeats 4000000 in
set_option maxRecDepth 100000 in
theorem m_X3_coinsFor (l : Launch) (G : oG) (Z : oZ) {t : Nat} (ht : t < 2) (τ : oT) (nS : Nat) (nO : Nat) (nH : Nat) (hz : oOK τ nS nO nH) (i : Nat) (hi : i < 8) (r : Nat) (hr6 : r < 6) : Met l yX3_coinsFor wsX3_coinsFor ({ frames := 2, cells := 0, slots := 0, locals := 43 } : Room) (va_Pc [.ref (ta G t (0)), .ref (ta G t (27 + 5 * i)), .ref (ta G t (3 + 4 * r))] (PW G (tw G Z t τ))) (oR (some (.int (oCoin τ i r nH)))) 0 0 (fun _ => False) := by
  refine o_body (cc := cX3_coinsFor) (by decide +kernel) rfl (Nat.le_of_ble_eq_true rfl) ?_
  intro p e s m below meth c ls hx hb hml hr hlocks hown hts hP hK hN hl
  have hown : s.vm.findClass RX3 = some m.cls := hown
  have hl : lv_has ls 5 [(0, .ref (ta G t (0))), (1, .ref (ta G t (27 + 5 * i))), (2, .ref (ta G t (3 + 4 * r)))] := hl
  obtain ⟨hz1, hz2, hz3, hz4, hz5, hz6, hz7⟩ := id hz
  refine lv_aload_n hx hb dX3_coinsFor_0 rfl (lv_at hl 1 rfl) ?_
  refine o_cVi (q0 := 1 + 67 * t + (27 + 5 * i)) (ci := 2) [] [] ⟨hx, hb, hml, hown, hts⟩ (m_X0_nextTune l G Z ht τ i (by omega)) (cwV 0 hts gX3_coinsFor_X0_nextTune rfl rfl rfl (by decide +kernel) ⟨Nat.le_of_ble_eq_true rfl, Nat.le_of_ble_eq_true rfl⟩) hK hN hP rfl rfl (tw_O G Z ht τ (by omega)) rfl hl.1 rfl (Nat.le_of_ble_eq_true rfl) dX3_coinsFor_1 ⟨Nat.zero_le _, Nat.zero_le _⟩ ?_
  refine lv_istore_n (lv' := [(3, .int (oNT τ i)), (0, .ref (ta G t (0))), (1, .ref (ta G t (27 + 5 * i))), (2, .ref (ta G t (3 + 4 * r)))]) hx hb dX3_coinsFor_4 rfl hl (by decide) rfl (fun ls hl => ?_)
  refine lv_iload_n hx hb dX3_coinsFor_5 rfl (lv_at hl 0 rfl) ?_
  refine lv_if_lt (tgt := 15) hx hb dX3_coinsFor_6 (by decide) (fun c6 => ?_) (fun c6 => ?_)
  · refine lv_iconst (v := 0) hx hb dX3_coinsFor_15 (by decide) ?_
    exact o_iretR hx hb hr hlocks dX3_coinsFor_16 (by simp [oCoin, c6])
  · refine lv_iload_n hx hb dX3_coinsFor_9 rfl (lv_at hl 0 rfl) ?_
    refine lv_bipush (v := 6) hx hb dX3_coinsFor_10 (by decide) ?_
    refine lv_icmp_lt (tgt := 17) hx hb dX3_coinsFor_12 (by decide) (fun c12 => ?_) (fun c12 => ?_)
    · refine lv_aload_n hx hb dX3_coinsFor_17 rfl (lv_at hl 3 rfl) ?_
      refine va_get (D := G.1) (ci := 4) (v := .ref (ta G t (5 + 4 * r))) (C := RX2) (T := TX2) (N := 6) hx hb hts (fun w9 h9 => List.mem_cons_of_mem _ (List.mem_append_left _ (List.mem_append_left _ (List.mem_append_right _ (h9))))) hown hK hP (1 + 67 * t + (3 + 4 * r)) (tw_S G Z ht τ (by omega)) rfl 1 (by decide) (hts (.fieldLink RX3 101 "OrganCensus$Street" "tastes" "[I") (List.mem_of_getElem? (i := 1) rfl)) (fun _ h9 => h9) rfl dX3_coinsFor_18 ?_
      refine lv_iload_n hx hb dX3_coinsFor_21 rfl (lv_at hl 0 rfl) ?_
      refine va_iald hx hb hK hP (1 + 67 * t + (5 + 4 * r)) 0 (tw_St G Z ht τ (by omega)) rfl (o_vin2 c6 c12 (by decide) (by decide)) dX3_coinsFor_22 ?_
      refine lv_aload_n hx hb dX3_coinsFor_23 rfl (lv_at hl 3 rfl) ?_
      refine va_get (D := G.1) (ci := 4) (v := .ref (ta G t (6 + 4 * r))) (C := RX2) (T := TX2) (N := 6) hx hb hts (fun w9 h9 => List.mem_cons_of_mem _ (List.mem_append_left _ (List.mem_append_left _ (List.mem_append_right _ (h9))))) hown hK hP (1 + 67 * t + (3 + 4 * r)) (tw_S G Z ht τ (by omega)) rfl 2 (by decide) (hts (.fieldLink RX3 105 "OrganCensus$Street" "weariness" "[I") (List.mem_of_getElem? (i := 2) rfl)) (fun _ h9 => h9) rfl dX3_coinsFor_24 ?_
      refine lv_iload_n hx hb dX3_coinsFor_27 rfl (lv_at hl 0 rfl) ?_
      refine va_iald hx hb hK hP (1 + 67 * t + (6 + 4 * r)) 0 (tw_Sw G Z ht τ (by omega)) rfl (o_vin2 c6 c12 (by decide) (by decide)) dX3_coinsFor_28 ?_
      refine lv_isub hx hb dX3_coinsFor_29 ?_
      refine lv_aload_n hx hb dX3_coinsFor_30 rfl (lv_at hl 2 rfl) ?_
      refine va_get (D := G.1) (ci := 2) (v := .ref (ta G t (29 + 5 * i))) (C := RX0) (T := TX0) (N := 12) hx hb hts (fun w9 h9 => List.mem_cons_of_mem _ (List.mem_append_left _ (List.mem_append_right _ (h9)))) hown hK hP (1 + 67 * t + (27 + 5 * i)) (tw_O G Z ht τ (by omega)) rfl 1 (by decide) (hts (.fieldLink RX3 108 "OrganCensus$Organ" "wear" "[I") (List.mem_of_getElem? (i := 3) rfl)) (fun _ h9 => h9) rfl dX3_coinsFor_31 ?_
      refine lv_iload_n hx hb dX3_coinsFor_34 rfl (lv_at hl 0 rfl) ?_
      refine va_iald hx hb hK hP (1 + 67 * t + (29 + 5 * i)) 0 (tw_Ow G Z ht τ (by omega)) rfl (o_vin2 c6 c12 (by decide) (by decide)) dX3_coinsFor_35 ?_
      refine lv_bipush (v := 10) hx hb dX3_coinsFor_36 (by decide) ?_
      refine lv_idiv hx hb dX3_coinsFor_38 (by decide) ?_
      refine lv_isub hx hb dX3_coinsFor_39 ?_
      refine lv_istore (lv' := [(4, .int (((τ 1 r ((oNT τ i).toNatClampNeg)) - (τ 2 r ((oNT τ i).toNatClampNeg))) - ((τ 7 i ((oNT τ i).toNatClampNeg)) / 10))), (3, .int (oNT τ i)), (0, .ref (ta G t (0))), (1, .ref (ta G t (27 + 5 * i))), (2, .ref (ta G t (3 + 4 * r)))]) hx hb dX3_coinsFor_40 hl (by decide) rfl (fun ls hl => ?_)
      refine lv_aload_n hx hb dX3_coinsFor_42 rfl (lv_at hl 2 rfl) ?_
      refine lv_aload_n hx hb dX3_coinsFor_43 rfl (lv_at hl 4 rfl) ?_
      refine o_cVi (q0 := 1 + 67 * t + (0)) (ci := 5) [.ref (ta G t (3 + 4 * r))] [] ⟨hx, hb, hml, hown, hts⟩ (m_X3_passersNow l G Z ht τ nS nO nH hz r (by omega)) (cwV 1 hts gX3_coinsFor_X3_passersNow rfl rfl rfl (by decide +kernel) ⟨Nat.le_of_ble_eq_true rfl, Nat.le_of_ble_eq_true rfl⟩) hK hN hP rfl rfl (tw_T G Z ht τ) rfl hl.1 rfl (Nat.le_of_ble_eq_true rfl) dX3_coinsFor_44 ⟨Nat.zero_le _, Nat.zero_le _⟩ ?_
      refine lv_iconst (v := 0) hx hb dX3_coinsFor_47 (by decide) ?_
      refine lv_iload hx hb dX3_coinsFor_48 (lv_at hl 0 rfl) ?_
      refine va_mmax (rest := [.int (oPas τ nH r)]) hx hb (hml.trans hl.1.symm) hown (hts (.methodLink RX3 115 Lib.Math.max.name) (List.mem_of_getElem? (i := 4) rfl)) (hts (.static Lib.Math.max.name) (List.mem_of_getElem? (i := 5) rfl)) (hts (.initialized "java/lang/Math") (List.mem_of_getElem? (i := 6) rfl)) (hts (.code Lib.Math.max.name Lib.Math.max.code 2 (some .int)) (List.mem_of_getElem? (i := 7) rfl)) (Nat.le_of_ble_eq_true rfl) (Nat.le_of_ble_eq_true rfl) (Nat.zero_le _) (Nat.zero_le _) dX3_coinsFor_50 ?_
      change W _ _ _ _ _ _ _ _ _ _ _ _ _ _ _ (F0 m 53 ls (.int (o_max 0 (((τ 1 r ((oNT τ i).toNatClampNeg)) - (τ 2 r ((oNT τ i).toNatClampNeg))) - ((τ 7 i ((oNT τ i).toNatClampNeg)) / 10))) :: _))
      refine lv_imul hx hb dX3_coinsFor_53 ?_
      refine lv_bipush (v := 10) hx hb dX3_coinsFor_54 (by decide) ?_
      refine lv_idiv hx hb dX3_coinsFor_56 (by decide) ?_
      exact o_iretR hx hb hr hlocks dX3_coinsFor_57 (by simp [oCoin, c6, c12])
    · refine lv_iconst (v := 0) hx hb dX3_coinsFor_15 (by decide) ?_
      exact o_iretR hx hb hr hlocks dX3_coinsFor_16 (by simp [oCoin, c6, c12])
