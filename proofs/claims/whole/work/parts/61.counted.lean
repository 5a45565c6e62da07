set_option maxHeartbeats 4000000 in
set_option maxRecDepth 100000 in
theorem m_X6_counted (l : Launch) (G : oG) (hI : wl_I G.2.1 39) (α β γ : oT) (sz : Nat) (nS : Nat) (nO : Nat) (nH : Nat) (hz : qOK α nS nO nH) (w : Nat) (aw : Int32) (ew : aw = nI w) (hw : w < 8) : Met l yX6_counted wsX6_counted ({ frames := 1, cells := 1, slots := 8, locals := 24 } : Room) (va_Pc [.ref (G.2.1 0), .int aw] (PN G (mw G (z3 α β γ)) sz)) (oQ (some (.int (mCnt α γ nS nO w))) (fun H9 => va_P G.1 vwCl (mw G (z3 α β γ)) H9) (mN G sz)) 1 8 (mN G sz) := by
  subst ew
  refine oE_body (E := fun U => sz ≤ U.heap.size) (cc := cX6_counted) (by decide +kernel) rfl (Nat.le_of_ble_eq_true rfl) ?_
  intro p e s m below meth c ls hx hb hml hr hlocks hown hts hP hK hN hE hl
  have hown : s.vm.findClass RX6 = some m.cls := hown
  have hl : lv_has ls 5 [(0, .ref (G.2.1 0)), (1, .int (nI w))] := hl
  have hS : va_S (mN G sz) s.heap s.heap [] := va_S.rf
  have hK0 := hK
  have hE : sz ≤ s.heap.size := hE
  obtain ⟨hz1, hz2, hz3, hz4, hz5, hz6, hz7, hz8⟩ := id hz
  refine lv_iconst (v := 0) hx hb dX6_counted_0 (by decide) ?_
  refine lv_istore_n (lv' := [(2, .int 0), (0, .ref (G.2.1 0)), (1, .int (nI w))]) hx hb dX6_counted_1 rfl hl (by decide) rfl (fun ls hl => ?_)
  refine lv_iconst (v := 0) hx hb dX6_counted_2 (by decide) ?_
  refine lv_istore_n (lv' := [(3, .int 0), (2, .int 0), (0, .ref (G.2.1 0)), (1, .int (nI w))]) hx hb dX6_counted_3 rfl hl (by decide) rfl (fun ls hl => ?_)
  refine lv_iconst (v := 0) hx hb dX6_counted_4 (by decide) ?_
  refine lv_istore (lv' := [(4, .int 0), (3, .int 0), (2, .int 0), (0, .ref (G.2.1 0)), (1, .int (nI w))]) hx hb dX6_counted_5 hl (by decide) rfl (fun ls hl => ?_)
  have lp7 : ∀ (d7 k : Nat), k + d7 = nS → ∀ x7_2 : Int32, x7_2 = (qStandA α nO k) → ∀ x7_4 : Int32, x7_4 = (nI k) → ∀ ls : Array Slot, lv_has ls 5 [(0, .ref (G.2.1 0)), (1, .int (nI w)), (3, .int 0), (2, .int x7_2), (4, .int x7_4)] → W p l e ({ frames := 1, cells := 1, slots := 8, locals := 24 } : Room) s m ([.ref (G.2.1 0), .int (nI w)] : List Value).toArray below meth c s.heap [] 0 0 (MQ below (oQ (some (.int (mCnt α γ nS nO w))) (fun H9 => va_P G.1 vwCl (mw G (z3 α β γ)) H9) (mN G sz)) ([.ref (G.2.1 0), .int (nI w)] : List Value).toArray s 1 8 (mN G sz)) (F0 m 7 ls []) := by
    intro d7
    induction d7 with
    | zero =>
      intro k hk7 x7_2 e7_2 x7_4 e7_4 ls hl
      subst e7_2
      subst e7_4
      have hk7 : k = nS := by omega
      refine lv_iload hx hb dX6_counted_7 (lv_at hl 4 rfl) ?_
      refine lv_aload_n hx hb dX6_counted_9 rfl (lv_at hl 0 rfl) ?_
      refine va_get (D := G.1) (ci := 8) (v := .ref (ms G 0 0)) (C := RX6) (T := TX6) (N := 6) hx hb hts (fun w9 h9 => List.mem_cons_of_mem _ (List.mem_append_left _ (List.mem_append_right _ (h9)))) hown hK hP (0) (mw_M G (z3 α β γ)) rfl 4 (by decide) (hts (.fieldLink RX6 21 "OrganCensusModel" "s" "LOrganCensusModel$State;") (List.mem_of_getElem? (i := 1) rfl)) (fun _ h9 => h9) rfl dX6_counted_10 ?_
      refine va_getN (D := G.1) (ci := 7) (v := .int (α 40 0 1)) (C := RX5) (T := TX5) (N := 21) hx hb hts (fun w9 h9 => List.mem_cons_of_mem _ (List.mem_append_right _ (h9))) hown hK hP (3 + 18 * 0 + (0)) (mv_S G (z3 α β γ) (show 0 < 2 by decide)) rfl 1 (by decide) (va_Nw.use rfl (hN.1 (RX6, 32, RX5, "streets", "I", RX6) (List.mem_of_getElem? (i := 0) rfl))) (fun _ h9 => h9) rfl dX6_counted_13 ?_
      refine lv_icmp_ge (tgt := 37) hx hb dX6_counted_16 (by decide) (fun c16 => ?_) (fun c16 => ?_)
      · have n16 := (o_nle (a := nS) (b := k) hz.1 rfl (by omega) (by omega)).mp c16
        refine lv_iconst (v := 0) hx hb dX6_counted_37 (by decide) ?_
        refine lv_istore (lv' := [(4, .int 0), (0, .ref (G.2.1 0)), (1, .int (nI w)), (3, .int 0), (2, .int (qStandA α nO k))]) hx hb dX6_counted_38 hl (by decide) rfl (fun ls hl => ?_)
        have lp40 : ∀ (d40 k2 : Nat), k2 + d40 = nO → ∀ x40_3 : Int32, x40_3 = (qBanA α nS k2) → ∀ x40_4 : Int32, x40_4 = (nI k2) → ∀ ls : Array Slot, lv_has ls 5 [(0, .ref (G.2.1 0)), (1, .int (nI w)), (2, .int (qStandA α nO k)), (3, .int x40_3), (4, .int x40_4)] → W p l e ({ frames := 1, cells := 1, slots := 8, locals := 24 } : Room) s m ([.ref (G.2.1 0), .int (nI w)] : List Value).toArray below meth c s.heap [] 0 0 (MQ below (oQ (some (.int (mCnt α γ nS nO w))) (fun H9 => va_P G.1 vwCl (mw G (z3 α β γ)) H9) (mN G sz)) ([.ref (G.2.1 0), .int (nI w)] : List Value).toArray s 1 8 (mN G sz)) (F0 m 40 ls []) := by
          intro d40
          induction d40 with
          | zero =>
            intro k2 hk40 x40_3 e40_3 x40_4 e40_4 ls hl
            subst e40_3
            subst e40_4
            have hk40 : k2 = nO := by omega
            refine lv_iload hx hb dX6_counted_40 (lv_at hl 4 rfl) ?_
            refine lv_aload_n hx hb dX6_counted_42 rfl (lv_at hl 0 rfl) ?_
            refine va_get (D := G.1) (ci := 8) (v := .ref (ms G 0 0)) (C := RX6) (T := TX6) (N := 6) hx hb hts (fun w9 h9 => List.mem_cons_of_mem _ (List.mem_append_left _ (List.mem_append_right _ (h9)))) hown hK hP (0) (mw_M G (z3 α β γ)) rfl 4 (by decide) (hts (.fieldLink RX6 21 "OrganCensusModel" "s" "LOrganCensusModel$State;") (List.mem_of_getElem? (i := 1) rfl)) (fun _ h9 => h9) rfl dX6_counted_43 ?_
            refine va_getN (D := G.1) (ci := 7) (v := .int (α 40 0 2)) (C := RX5) (T := TX5) (N := 21) hx hb hts (fun w9 h9 => List.mem_cons_of_mem _ (List.mem_append_right _ (h9))) hown hK hP (3 + 18 * 0 + (0)) (mv_S G (z3 α β γ) (show 0 < 2 by decide)) rfl 7 (by decide) (va_Nw.use rfl (hN.1 (RX6, 39, RX5, "organs", "I", RX6) (List.mem_of_getElem? (i := 1) rfl))) (fun _ h9 => h9) rfl dX6_counted_46 ?_
            refine lv_icmp_ge (tgt := 70) hx hb dX6_counted_49 (by decide) (fun c49 => ?_) (fun c49 => ?_)
            · have n49 := (o_nle (a := nO) (b := k2) hz.2.2.1 rfl (by omega) (by omega)).mp c49
              refine lv_bipush (v := 8) hx hb dX6_counted_70 (by decide) ?_
              refine va_newa (atype := .int) hx hb (hts (.arrayClass .int) (List.mem_of_getElem? (i := 2) rfl)) rfl hK hP (mN_D hI) hS (fun q h => Or.inr (Nat.le_trans hE h)) (a0 := (8, .inl (fun _ => 0))) (N' := 8) (fun cA => rfl) (by decide) (by decide) (Nat.le_of_ble_eq_true rfl) (Nat.le_of_ble_eq_true rfl) (Nat.le_of_ble_eq_true rfl) dX6_counted_72 (fun q9 cA9 H hK hP hD hS => ?_)
              obtain ⟨g0, hg0⟩ : ∃ gq : Nat → Int32, gq = fun _ => 0 := ⟨_, rfl⟩
              have hP : va_P G.1 vwCl (mw G (z3 α β γ) ++ [(q9, .inl (cA9, 8, .inl g0))]) H := by rw [hg0]; exact hP
              have hD : va_D (mN G sz) (mw G (z3 α β γ) ++ [(q9, .inl (cA9, 8, .inl g0))]) := by rw [hg0]; exact hD
              refine lv_dup hx hb dX6_counted_74 rfl ?_
              refine lv_iconst (v := 0) hx hb dX6_counted_75 (by decide) ?_
              refine lv_aload_n hx hb dX6_counted_76 rfl (lv_at hl 0 rfl) ?_
              refine va_get (D := G.1) (ci := 8) (v := .ref (ms G 0 0)) (C := RX6) (T := TX6) (N := 6) hx hb hts (fun w9 h9 => List.mem_cons_of_mem _ (List.mem_append_left _ (List.mem_append_right _ (h9)))) hown hK hP (0) (wl_app (mw_M G (z3 α β γ))) rfl 4 (by decide) (hts (.fieldLink RX6 21 "OrganCensusModel" "s" "LOrganCensusModel$State;") (List.mem_of_getElem? (i := 1) rfl)) (fun _ h9 => h9) rfl dX6_counted_77 ?_
              refine va_getN (D := G.1) (ci := 7) (v := .int (α 40 0 0)) (C := RX5) (T := TX5) (N := 21) hx hb hts (fun w9 h9 => List.mem_cons_of_mem _ (List.mem_append_right _ (h9))) hown hK hP (3 + 18 * 0 + (0)) (wl_app (mv_S G (z3 α β γ) (show 0 < 2 by decide))) rfl 0 (by decide) (va_Nw.use rfl (hN.1 (RX6, 56, RX5, "hour", "I", RX6) (List.mem_of_getElem? (i := 4) rfl))) (fun _ h9 => h9) rfl dX6_counted_80 ?_
              refine o_iast (k := 0) hx hb hK hP hD hS (39) 6 (mw_39 G _ _) rfl (by decide) (by omega) (by decide) dX6_counted_83 (fun H locs hP hD hS => ?_)
              rw [mw_set39] at hP hD
              obtain ⟨g1, hg1⟩ : ∃ gq, gq = upd g0 0 (α 40 0 0) := ⟨_, rfl⟩
              have hP : va_P G.1 vwCl (mw G (z3 α β γ) ++ [(q9, .inl (cA9, 8, .inl g1))]) H := by rw [hg1]; exact hP
              have hD : va_D (mN G sz) (mw G (z3 α β γ) ++ [(q9, .inl (cA9, 8, .inl g1))]) := by rw [hg1]; exact hD
              refine lv_dup hx hb dX6_counted_84 rfl ?_
              refine lv_iconst (v := 1) hx hb dX6_counted_85 (by decide) ?_
              refine lv_aload_n hx hb dX6_counted_86 rfl (lv_at hl 0 rfl) ?_
              refine va_get (D := G.1) (ci := 8) (v := .ref (ms G 0 0)) (C := RX6) (T := TX6) (N := 6) hx hb hts (fun w9 h9 => List.mem_cons_of_mem _ (List.mem_append_left _ (List.mem_append_right _ (h9)))) hown hK hP (0) (wl_app (mw_M G (z3 α β γ))) rfl 4 (by decide) (hts (.fieldLink RX6 21 "OrganCensusModel" "s" "LOrganCensusModel$State;") (List.mem_of_getElem? (i := 1) rfl)) (fun _ h9 => h9) rfl dX6_counted_87 ?_
              refine va_getN (D := G.1) (ci := 7) (v := .int (α 40 0 1)) (C := RX5) (T := TX5) (N := 21) hx hb hts (fun w9 h9 => List.mem_cons_of_mem _ (List.mem_append_right _ (h9))) hown hK hP (3 + 18 * 0 + (0)) (wl_app (mv_S G (z3 α β γ) (show 0 < 2 by decide))) rfl 1 (by decide) (va_Nw.use rfl (hN.1 (RX6, 32, RX5, "streets", "I", RX6) (List.mem_of_getElem? (i := 0) rfl))) (fun _ h9 => h9) rfl dX6_counted_90 ?_
              refine o_iast (k := 1) hx hb hK hP hD hS (39) 6 (mw_39 G _ _) rfl (by decide) (by omega) (by decide) dX6_counted_93 (fun H locs hP hD hS => ?_)
              rw [mw_set39] at hP hD
              obtain ⟨g2, hg2⟩ : ∃ gq, gq = upd g1 1 (α 40 0 1) := ⟨_, rfl⟩
              have hP : va_P G.1 vwCl (mw G (z3 α β γ) ++ [(q9, .inl (cA9, 8, .inl g2))]) H := by rw [hg2]; exact hP
              have hD : va_D (mN G sz) (mw G (z3 α β γ) ++ [(q9, .inl (cA9, 8, .inl g2))]) := by rw [hg2]; exact hD
              refine lv_dup hx hb dX6_counted_94 rfl ?_
              refine lv_iconst (v := 2) hx hb dX6_counted_95 (by decide) ?_
              refine lv_aload_n hx hb dX6_counted_96 rfl (lv_at hl 0 rfl) ?_
              refine va_get (D := G.1) (ci := 8) (v := .ref (ms G 0 0)) (C := RX6) (T := TX6) (N := 6) hx hb hts (fun w9 h9 => List.mem_cons_of_mem _ (List.mem_append_left _ (List.mem_append_right _ (h9)))) hown hK hP (0) (wl_app (mw_M G (z3 α β γ))) rfl 4 (by decide) (hts (.fieldLink RX6 21 "OrganCensusModel" "s" "LOrganCensusModel$State;") (List.mem_of_getElem? (i := 1) rfl)) (fun _ h9 => h9) rfl dX6_counted_97 ?_
              refine va_getN (D := G.1) (ci := 7) (v := .int (α 40 0 2)) (C := RX5) (T := TX5) (N := 21) hx hb hts (fun w9 h9 => List.mem_cons_of_mem _ (List.mem_append_right _ (h9))) hown hK hP (3 + 18 * 0 + (0)) (wl_app (mv_S G (z3 α β γ) (show 0 < 2 by decide))) rfl 7 (by decide) (va_Nw.use rfl (hN.1 (RX6, 39, RX5, "organs", "I", RX6) (List.mem_of_getElem? (i := 1) rfl))) (fun _ h9 => h9) rfl dX6_counted_100 ?_
              refine o_iast (k := 2) hx hb hK hP hD hS (39) 6 (mw_39 G _ _) rfl (by decide) (by omega) (by decide) dX6_counted_103 (fun H locs hP hD hS => ?_)
              rw [mw_set39] at hP hD
              obtain ⟨g3, hg3⟩ : ∃ gq, gq = upd g2 2 (α 40 0 2) := ⟨_, rfl⟩
              have hP : va_P G.1 vwCl (mw G (z3 α β γ) ++ [(q9, .inl (cA9, 8, .inl g3))]) H := by rw [hg3]; exact hP
              have hD : va_D (mN G sz) (mw G (z3 α β γ) ++ [(q9, .inl (cA9, 8, .inl g3))]) := by rw [hg3]; exact hD
              refine lv_dup hx hb dX6_counted_104 rfl ?_
              refine lv_iconst (v := 3) hx hb dX6_counted_105 (by decide) ?_
              refine lv_iload_n hx hb dX6_counted_106 rfl (lv_at hl 2 rfl) ?_
              refine o_iast (k := 3) hx hb hK hP hD hS (39) 6 (mw_39 G _ _) rfl (by decide) (by omega) (by decide) dX6_counted_107 (fun H locs hP hD hS => ?_)
              rw [mw_set39] at hP hD
              obtain ⟨g4, hg4⟩ : ∃ gq, gq = upd g3 3 (qStandA α nO k) := ⟨_, rfl⟩
              have hP : va_P G.1 vwCl (mw G (z3 α β γ) ++ [(q9, .inl (cA9, 8, .inl g4))]) H := by rw [hg4]; exact hP
              have hD : va_D (mN G sz) (mw G (z3 α β γ) ++ [(q9, .inl (cA9, 8, .inl g4))]) := by rw [hg4]; exact hD
              refine lv_dup hx hb dX6_counted_108 rfl ?_
              refine lv_iconst (v := 4) hx hb dX6_counted_109 (by decide) ?_
              refine lv_aload_n hx hb dX6_counted_110 rfl (lv_at hl 0 rfl) ?_
              refine va_get (D := G.1) (ci := 8) (v := .ref (ms G 0 0)) (C := RX6) (T := TX6) (N := 6) hx hb hts (fun w9 h9 => List.mem_cons_of_mem _ (List.mem_append_left _ (List.mem_append_right _ (h9)))) hown hK hP (0) (wl_app (mw_M G (z3 α β γ))) rfl 4 (by decide) (hts (.fieldLink RX6 21 "OrganCensusModel" "s" "LOrganCensusModel$State;") (List.mem_of_getElem? (i := 1) rfl)) (fun _ h9 => h9) rfl dX6_counted_111 ?_
              refine lv_aload_n hx hb dX6_counted_114 rfl (lv_at hl 0 rfl) ?_
              refine va_get (D := G.1) (ci := 8) (v := .ref (ms G 0 0)) (C := RX6) (T := TX6) (N := 6) hx hb hts (fun w9 h9 => List.mem_cons_of_mem _ (List.mem_append_left _ (List.mem_append_right _ (h9)))) hown hK hP (0) (wl_app (mw_M G (z3 α β γ))) rfl 4 (by decide) (hts (.fieldLink RX6 21 "OrganCensusModel" "s" "LOrganCensusModel$State;") (List.mem_of_getElem? (i := 1) rfl)) (fun _ h9 => h9) rfl dX6_counted_115 ?_
              refine va_getN (D := G.1) (ci := 7) (v := .ref (ms G 0 10)) (C := RX5) (T := TX5) (N := 21) hx hb hts (fun w9 h9 => List.mem_cons_of_mem _ (List.mem_append_right _ (h9))) hown hK hP (3 + 18 * 0 + (0)) (wl_app (mv_S G (z3 α β γ) (show 0 < 2 by decide))) rfl 12 (by decide) (va_Nw.use rfl (hN.1 (RX6, 122, RX5, "coins", "[I", RX6) (List.mem_of_getElem? (i := 16) rfl))) (fun _ h9 => h9) rfl dX6_counted_118 ?_
              have hP9 := hP
              have hK9 := hK
              have hP := (ol_split hP).1
              have hK := hK0
              have hP : va_P G.1 vwCl (mtw G (z3 α β γ) 0 α) H := by rw [mz0]; exact hP
              refine o_cVi (q0 := 3 + 18 * 0 + (0)) (ci := 7) [.ref (ms G 0 10)] [.int 4, .ref q9, .ref q9] ⟨hx, hb, hml, hown, hts⟩ (m_X5_over l G (z3 α β γ) (show 0 < 2 by decide) α nS nO nH hz) (cwV 1 hts gX6_counted_X5_over rfl rfl rfl (by decide +kernel) ⟨Nat.le_of_ble_eq_true rfl, Nat.le_of_ble_eq_true rfl⟩) hK hN hP rfl rfl (mt_S G (z3 α β γ) (show 0 < 2 by decide) α) rfl hl.1 rfl (Nat.le_of_ble_eq_true rfl) dX6_counted_121 ⟨(show 1 ≤ 1 by omega), (show 8 ≤ 8 by omega)⟩ ?_
              have hP : va_P G.1 vwCl (mw G (z3 α β γ)) H := by rw [mz0] at hP; exact hP
              have hP := hP9
              have hK := hK9
              refine o_iast (k := 4) hx hb hK hP hD hS (39) 6 (mw_39 G _ _) rfl (by decide) (by omega) (by decide) dX6_counted_124 (fun H locs hP hD hS => ?_)
              rw [mw_set39] at hP hD
              obtain ⟨g5, hg5⟩ : ∃ gq, gq = upd g4 4 (qOver α nO) := ⟨_, rfl⟩
              have hP : va_P G.1 vwCl (mw G (z3 α β γ) ++ [(q9, .inl (cA9, 8, .inl g5))]) H := by rw [hg5]; exact hP
              have hD : va_D (mN G sz) (mw G (z3 α β γ) ++ [(q9, .inl (cA9, 8, .inl g5))]) := by rw [hg5]; exact hD
              refine lv_dup hx hb dX6_counted_125 rfl ?_
              refine lv_iconst (v := 5) hx hb dX6_counted_126 (by decide) ?_
              refine lv_aload_n hx hb dX6_counted_127 rfl (lv_at hl 0 rfl) ?_
              refine va_get (D := G.1) (ci := 8) (v := .ref (ms G 0 0)) (C := RX6) (T := TX6) (N := 6) hx hb hts (fun w9 h9 => List.mem_cons_of_mem _ (List.mem_append_left _ (List.mem_append_right _ (h9)))) hown hK hP (0) (wl_app (mw_M G (z3 α β γ))) rfl 4 (by decide) (hts (.fieldLink RX6 21 "OrganCensusModel" "s" "LOrganCensusModel$State;") (List.mem_of_getElem? (i := 1) rfl)) (fun _ h9 => h9) rfl dX6_counted_128 ?_
              refine lv_iconst (v := (-1)) hx hb dX6_counted_131 (by decide) ?_
              refine lv_iconst (v := (-1)) hx hb dX6_counted_132 (by decide) ?_
              have hP9 := hP
              have hK9 := hK
              have hP := (ol_split hP).1
              have hK := hK0
              have hP : va_P G.1 vwCl (mtw G (z3 α β γ) 0 α) H := by rw [mz0]; exact hP
              refine o_cVi (q0 := 3 + 18 * 0 + (0)) (ci := 7) [.int ((-1)), .int ((-1))] [.int 5, .ref q9, .ref q9] ⟨hx, hb, hml, hown, hts⟩ (m_X5_complaintsOf l G (z3 α β γ) (show 0 < 2 by decide) α nS nO nH hz (-1) (-1)) (cwV 2 hts gX6_counted_X5_complaintsOf rfl rfl rfl (by decide +kernel) ⟨Nat.le_of_ble_eq_true rfl, Nat.le_of_ble_eq_true rfl⟩) hK hN hP rfl rfl (mt_S G (z3 α β γ) (show 0 < 2 by decide) α) rfl hl.1 rfl (Nat.le_of_ble_eq_true rfl) dX6_counted_133 ⟨(show 1 ≤ 1 by omega), (show 8 ≤ 8 by omega)⟩ ?_
              have hP : va_P G.1 vwCl (mw G (z3 α β γ)) H := by rw [mz0] at hP; exact hP
              have hP := hP9
              have hK := hK9
              refine o_iast (k := 5) hx hb hK hP hD hS (39) 6 (mw_39 G _ _) rfl (by decide) (by omega) (by decide) dX6_counted_136 (fun H locs hP hD hS => ?_)
              rw [mw_set39] at hP hD
              obtain ⟨g6, hg6⟩ : ∃ gq, gq = upd g5 5 (qCo α (-1) (-1) (nO * 6)) := ⟨_, rfl⟩
              have hP : va_P G.1 vwCl (mw G (z3 α β γ) ++ [(q9, .inl (cA9, 8, .inl g6))]) H := by rw [hg6]; exact hP
              have hD : va_D (mN G sz) (mw G (z3 α β γ) ++ [(q9, .inl (cA9, 8, .inl g6))]) := by rw [hg6]; exact hD
              refine lv_dup hx hb dX6_counted_137 rfl ?_
              refine lv_bipush (v := 6) hx hb dX6_counted_138 (by decide) ?_
              refine lv_iload_n hx hb dX6_counted_140 rfl (lv_at hl 3 rfl) ?_
              refine o_iast (k := 6) hx hb hK hP hD hS (39) 6 (mw_39 G _ _) rfl (by decide) (by omega) (by decide) dX6_counted_141 (fun H locs hP hD hS => ?_)
              rw [mw_set39] at hP hD
              obtain ⟨g7, hg7⟩ : ∃ gq, gq = upd g6 6 (qBanA α nS k2) := ⟨_, rfl⟩
              have hP : va_P G.1 vwCl (mw G (z3 α β γ) ++ [(q9, .inl (cA9, 8, .inl g7))]) H := by rw [hg7]; exact hP
              have hD : va_D (mN G sz) (mw G (z3 α β γ) ++ [(q9, .inl (cA9, 8, .inl g7))]) := by rw [hg7]; exact hD
              refine lv_dup hx hb dX6_counted_142 rfl ?_
              refine lv_bipush (v := 7) hx hb dX6_counted_143 (by decide) ?_
              refine lv_aload_n hx hb dX6_counted_145 rfl (lv_at hl 0 rfl) ?_
              refine va_get (D := G.1) (ci := 8) (v := .int (γ 41 0 1)) (C := RX6) (T := TX6) (N := 6) hx hb hts (fun w9 h9 => List.mem_cons_of_mem _ (List.mem_append_left _ (List.mem_append_right _ (h9)))) hown hK hP (0) (wl_app (mw_M G (z3 α β γ))) rfl 3 (by decide) (hts (.fieldLink RX6 148 "OrganCensusModel" "papered" "I") (List.mem_of_getElem? (i := 3) rfl)) (fun _ h9 => h9) rfl dX6_counted_146 ?_
              refine o_iast (k := 7) hx hb hK hP hD hS (39) 6 (mw_39 G _ _) rfl (by decide) (by omega) (by decide) dX6_counted_149 (fun H locs hP hD hS => ?_)
              rw [mw_set39] at hP hD
              obtain ⟨g8, hg8⟩ : ∃ gq, gq = upd g7 7 (γ 41 0 1) := ⟨_, rfl⟩
              have hP : va_P G.1 vwCl (mw G (z3 α β γ) ++ [(q9, .inl (cA9, 8, .inl g8))]) H := by rw [hg8]; exact hP
              have hD : va_D (mN G sz) (mw G (z3 α β γ) ++ [(q9, .inl (cA9, 8, .inl g8))]) := by rw [hg8]; exact hD
              refine lv_astore (lv' := [(4, .ref q9), (0, .ref (G.2.1 0)), (1, .int (nI w)), (2, .int (qStandA α nO k)), (3, .int (qBanA α nS k2))]) hx hb dX6_counted_150 hl (by decide) rfl (fun ls hl => ?_)
              refine lv_aload hx hb dX6_counted_152 (lv_at hl 0 rfl) ?_
              refine lv_iload_n hx hb dX6_counted_154 rfl (lv_at hl 2 rfl) ?_
              refine o_iald (k := w) hx hb hK hP (39) 6 (mw_39 G _ _) rfl rfl (by omega) (by decide) dX6_counted_155 ?_
              refine o_widen (k := 1) (n := 8) (by omega) (by omega) ?_
              exact o_iretM hx hb hr hlocks hS dX6_counted_156 ((ol_split hP).1) (by subst hk7; subst hk40; subst hg8 hg7 hg6 hg5 hg4 hg3 hg2 hg1 hg0; rcases (show w = 0 ∨ w = 1 ∨ w = 2 ∨ w = 3 ∨ w = 4 ∨ w = 5 ∨ w = 6 ∨ w = 7 by omega) with rfl | rfl | rfl | rfl | rfl | rfl | rfl | rfl <;> rfl)
            · have n49 := (mt (o_nle (a := nO) (b := k2) hz.2.2.1 rfl (by omega) (by omega)).mpr) c49; omega
          | succ d40 ih40 =>
            intro k2 hk40 x40_3 e40_3 x40_4 e40_4 ls hl
            subst e40_3
            subst e40_4
            have hj40 : k2 < nO := by omega
            refine lv_iload hx hb dX6_counted_40 (lv_at hl 4 rfl) ?_
            refine lv_aload_n hx hb dX6_counted_42 rfl (lv_at hl 0 rfl) ?_
            refine va_get (D := G.1) (ci := 8) (v := .ref (ms G 0 0)) (C := RX6) (T := TX6) (N := 6) hx hb hts (fun w9 h9 => List.mem_cons_of_mem _ (List.mem_append_left _ (List.mem_append_right _ (h9)))) hown hK hP (0) (mw_M G (z3 α β γ)) rfl 4 (by decide) (hts (.fieldLink RX6 21 "OrganCensusModel" "s" "LOrganCensusModel$State;") (List.mem_of_getElem? (i := 1) rfl)) (fun _ h9 => h9) rfl dX6_counted_43 ?_
            refine va_getN (D := G.1) (ci := 7) (v := .int (α 40 0 2)) (C := RX5) (T := TX5) (N := 21) hx hb hts (fun w9 h9 => List.mem_cons_of_mem _ (List.mem_append_right _ (h9))) hown hK hP (3 + 18 * 0 + (0)) (mv_S G (z3 α β γ) (show 0 < 2 by decide)) rfl 7 (by decide) (va_Nw.use rfl (hN.1 (RX6, 39, RX5, "organs", "I", RX6) (List.mem_of_getElem? (i := 1) rfl))) (fun _ h9 => h9) rfl dX6_counted_46 ?_
            refine lv_icmp_ge (tgt := 70) hx hb dX6_counted_49 (by decide) (fun c49 => ?_) (fun c49 => ?_)
            · have n49 := (o_nle (a := nO) (b := k2) hz.2.2.1 rfl (by omega) (by omega)).mp c49; omega
            · have n49 := (mt (o_nle (a := nO) (b := k2) hz.2.2.1 rfl (by omega) (by omega)).mpr) c49
              refine lv_iload_n hx hb dX6_counted_52 rfl (lv_at hl 3 rfl) ?_
              refine lv_aload_n hx hb dX6_counted_53 rfl (lv_at hl 0 rfl) ?_
              refine va_get (D := G.1) (ci := 8) (v := .ref (ms G 0 0)) (C := RX6) (T := TX6) (N := 6) hx hb hts (fun w9 h9 => List.mem_cons_of_mem _ (List.mem_append_left _ (List.mem_append_right _ (h9)))) hown hK hP (0) (mw_M G (z3 α β γ)) rfl 4 (by decide) (hts (.fieldLink RX6 21 "OrganCensusModel" "s" "LOrganCensusModel$State;") (List.mem_of_getElem? (i := 1) rfl)) (fun _ h9 => h9) rfl dX6_counted_54 ?_
              refine lv_iload hx hb dX6_counted_57 (lv_at hl 4 rfl) ?_
              have hP : va_P G.1 vwCl (mtw G (z3 α β γ) 0 α) s.heap := by rw [mz0]; exact hP
              refine o_cVi (q0 := 3 + 18 * 0 + (0)) (ci := 7) [.int (nI k2)] [.int (qBanA α nS k2)] ⟨hx, hb, hml, hown, hts⟩ (m_X5_banishments l G (z3 α β γ) (show 0 < 2 by decide) α nS nO nH hz k2 (nI k2) (rfl) (by omega)) (cwV 1 hts gX6_counted_X5_banishments rfl rfl rfl (by decide +kernel) ⟨Nat.le_of_ble_eq_true rfl, Nat.le_of_ble_eq_true rfl⟩) hK hN hP rfl rfl (mt_S G (z3 α β γ) (show 0 < 2 by decide) α) rfl hl.1 rfl (Nat.le_of_ble_eq_true rfl) dX6_counted_59 ⟨(show 0 ≤ 1 by omega), (show 0 ≤ 8 by omega)⟩ ?_
              have hP : va_P G.1 vwCl (mw G (z3 α β γ)) s.heap := by rw [mz0] at hP; exact hP
              refine lv_iadd hx hb dX6_counted_62 ?_
              refine lv_istore_n (lv' := [(3, .int ((qBanA α nS k2) + (qBS α k2 nS))), (0, .ref (G.2.1 0)), (1, .int (nI w)), (2, .int (qStandA α nO k)), (4, .int (nI k2))]) hx hb dX6_counted_63 rfl hl (by decide) rfl (fun ls hl => ?_)
              refine lv_iinc (v := nI (k2 + 1)) (lv' := [(4, .int (nI (k2 + 1))), (3, .int ((qBanA α nS k2) + (qBS α k2 nS))), (0, .ref (G.2.1 0)), (1, .int (nI w)), (2, .int (qStandA α nO k))]) hx hb dX6_counted_64 hl (k := 4) rfl (nI_1 k2) (by decide) rfl (fun ls hl => ?_)
              refine lv_goto (tgt := 40) hx hb dX6_counted_67 (by decide) ?_
              exact ih40 (k2 + 1) (by omega) _ (rfl) _ (rfl) ls (lv_sub hl [2, 3, 4, 1, 0] rfl)
        exact lp40 (nO) 0 (by omega) _ (rfl) _ (rfl) ls (lv_sub hl [1, 2, 4, 3, 0] rfl)
      · have n16 := (mt (o_nle (a := nS) (b := k) hz.1 rfl (by omega) (by omega)).mpr) c16; omega
    | succ d7 ih7 =>
      intro k hk7 x7_2 e7_2 x7_4 e7_4 ls hl
      subst e7_2
      subst e7_4
      have hj7 : k < nS := by omega
      refine lv_iload hx hb dX6_counted_7 (lv_at hl 4 rfl) ?_
      refine lv_aload_n hx hb dX6_counted_9 rfl (lv_at hl 0 rfl) ?_
      refine va_get (D := G.1) (ci := 8) (v := .ref (ms G 0 0)) (C := RX6) (T := TX6) (N := 6) hx hb hts (fun w9 h9 => List.mem_cons_of_mem _ (List.mem_append_left _ (List.mem_append_right _ (h9)))) hown hK hP (0) (mw_M G (z3 α β γ)) rfl 4 (by decide) (hts (.fieldLink RX6 21 "OrganCensusModel" "s" "LOrganCensusModel$State;") (List.mem_of_getElem? (i := 1) rfl)) (fun _ h9 => h9) rfl dX6_counted_10 ?_
      refine va_getN (D := G.1) (ci := 7) (v := .int (α 40 0 1)) (C := RX5) (T := TX5) (N := 21) hx hb hts (fun w9 h9 => List.mem_cons_of_mem _ (List.mem_append_right _ (h9))) hown hK hP (3 + 18 * 0 + (0)) (mv_S G (z3 α β γ) (show 0 < 2 by decide)) rfl 1 (by decide) (va_Nw.use rfl (hN.1 (RX6, 32, RX5, "streets", "I", RX6) (List.mem_of_getElem? (i := 0) rfl))) (fun _ h9 => h9) rfl dX6_counted_13 ?_
      refine lv_icmp_ge (tgt := 37) hx hb dX6_counted_16 (by decide) (fun c16 => ?_) (fun c16 => ?_)
      · have n16 := (o_nle (a := nS) (b := k) hz.1 rfl (by omega) (by omega)).mp c16; omega
      · have n16 := (mt (o_nle (a := nS) (b := k) hz.1 rfl (by omega) (by omega)).mpr) c16
        refine lv_iload_n hx hb dX6_counted_19 rfl (lv_at hl 3 rfl) ?_
        refine lv_aload_n hx hb dX6_counted_20 rfl (lv_at hl 0 rfl) ?_
        refine va_get (D := G.1) (ci := 8) (v := .ref (ms G 0 0)) (C := RX6) (T := TX6) (N := 6) hx hb hts (fun w9 h9 => List.mem_cons_of_mem _ (List.mem_append_left _ (List.mem_append_right _ (h9)))) hown hK hP (0) (mw_M G (z3 α β γ)) rfl 4 (by decide) (hts (.fieldLink RX6 21 "OrganCensusModel" "s" "LOrganCensusModel$State;") (List.mem_of_getElem? (i := 1) rfl)) (fun _ h9 => h9) rfl dX6_counted_21 ?_
        refine lv_iload hx hb dX6_counted_24 (lv_at hl 4 rfl) ?_
        have hP : va_P G.1 vwCl (mtw G (z3 α β γ) 0 α) s.heap := by rw [mz0]; exact hP
        refine o_cVi (q0 := 3 + 18 * 0 + (0)) (ci := 7) [.int (nI k)] [.int (qStandA α nO k)] ⟨hx, hb, hml, hown, hts⟩ (m_X5_standing l G (z3 α β γ) (show 0 < 2 by decide) α nS nO nH hz (nI k)) (cwV 1 hts gX6_counted_X5_standing rfl rfl rfl (by decide +kernel) ⟨Nat.le_of_ble_eq_true rfl, Nat.le_of_ble_eq_true rfl⟩) hK hN hP rfl rfl (mt_S G (z3 α β γ) (show 0 < 2 by decide) α) rfl hl.1 rfl (Nat.le_of_ble_eq_true rfl) dX6_counted_26 ⟨(show 0 ≤ 1 by omega), (show 0 ≤ 8 by omega)⟩ ?_
        have hP : va_P G.1 vwCl (mw G (z3 α β γ)) s.heap := by rw [mz0] at hP; exact hP
        refine lv_iadd hx hb dX6_counted_29 ?_
        refine lv_istore_n (lv' := [(2, .int ((qStandA α nO k) + (qStandN α (nI k) nO))), (0, .ref (G.2.1 0)), (1, .int (nI w)), (3, .int 0), (4, .int (nI k))]) hx hb dX6_counted_30 rfl hl (by decide) rfl (fun ls hl => ?_)
        refine lv_iinc (v := nI (k + 1)) (lv' := [(4, .int (nI (k + 1))), (2, .int ((qStandA α nO k) + (qStandN α (nI k) nO))), (0, .ref (G.2.1 0)), (1, .int (nI w)), (3, .int 0)]) hx hb dX6_counted_31 hl (k := 4) rfl (nI_1 k) (by decide) rfl (fun ls hl => ?_)
        refine lv_goto (tgt := 7) hx hb dX6_counted_34 (by decide) ?_
        exact ih7 (k + 1) (by omega) _ (rfl) _ (rfl) ls (lv_sub hl [2, 3, 4, 1, 0] rfl)
  exact lp7 (nS) 0 (by omega) _ (rfl) _ (rfl) ls (lv_sub hl [3, 4, 1, 2, 0] rfl)
