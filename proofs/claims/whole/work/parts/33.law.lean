set_option maxHeartbeats 4000000 in
set_option maxRecDepth 100000 in
theorem mL_build (l : Launch) (hst : l.stackTraces = false) (G : oG) (hI : wl_I G.2.1 137) (α β γ : oT) (nS nO nH : Nat) (hz : oOK α nS nO nH) (ao : Nat) (f : Nat → Int64) (hao : ¬ oA G ao) (x : Int32) : Met l yL_build wsL_build ({ frames := 8, cells := 1, slots := 6, locals := 125 } : Room) (va_Pc [.ref (G.2.1 0), .int x, .ref ao] (PL G (cw G (z3 α β γ)) ao f)) (oQ (some (.int (nI (cBuild nS x)))) (fun H9 => va_P G.1 vwCl (cw G (if cBuild nS x = 0 then z3 (su (su α 3 nS 0 x) 18 0 0 (nI (nS + 1))) β γ else z3 α β γ)) H9 ∧ va_P G.1 vwCl (lw1 G ao (if cBuild nS x = 0 then vp_updL f 0 (nI nS).toInt64 else f)) H9) (oL G ao)) 1 6 (oL G ao) := by
  refine ol_body (cc := cL_build) (by decide +kernel) rfl (Nat.le_of_ble_eq_true rfl) ?_
  intro p e s m below meth c ls hx hb hml hr hlocks htab hown hts hP hO hK hN hE hC hl
  have hown : s.vm.findClass RL = some m.cls := hown
  have hl : lv_has ls 4 [(0, .ref (G.2.1 0)), (1, .int x), (2, .ref ao)] := hl
  obtain ⟨hz1, hz2, hz3, hz4, hz5, hz6, hz7⟩ := id hz
  refine lv_aload_n hx hb dL_build_0 rfl (lv_at hl 2 rfl) ?_
  refine lv_iconst (v := 0) hx hb dL_build_1 (by decide) ?_
  refine lv_aload_n hx hb dL_build_2 rfl (lv_at hl 0 rfl) ?_
  refine lv_iload_n hx hb dL_build_3 rfl (lv_at hl 1 rfl) ?_
  by_cases h1 : oRg x 3 20 = true
  · by_cases h2 : ¬ nS = 6
    · have hc9 : cBuild nS x = 0 := by simp [cBuild, h1, h2]
      refine ol_cV (A0 := oL G ao) (q0 := 0) (ci := 6) [.int x] [.int 0, .ref ao] ⟨hx, hb, hml, hown, hts⟩ (m_X4_build l G hI α β γ nS nO nH hz x (h1) (by omega)) (cwV 1 hts gL_build_X4_build rfl rfl rfl (by decide +kernel) ⟨Nat.le_of_ble_eq_true rfl, Nat.le_of_ble_eq_true rfl⟩) hK hN hP va_S.rf (fun _ h => Or.inl h) rfl rfl (cx_C G _) rfl hl.1 rfl (Nat.le_of_ble_eq_true rfl) dL_build_4 ⟨Nat.zero_le _, Nat.zero_le _⟩ (fun H locs hP hk hS => ?_)
      have hO := ol_keep hO hao hk
      refine lv_i2l (v := (nI nS).toInt64) hx hb dL_build_7 rfl ?_
      refine ol_last hx hb hK hP hO hI hao hS dL_build_8 (fun H locs hP hO hS => ?_)
      refine lv_goto (tgt := 18) hx hb dL_build_9 (by decide) ?_
      refine lv_iconst (v := 0) hx hb dL_build_18 (by decide) ?_
      exact ol_ret hx hb hr hlocks hS dL_build_19 (by decide) (by decide) ⟨by rw [hc9]; exact hP, by rw [hc9]; exact hO⟩ (by rw [hc9]; rfl)
    · have h2 := Decidable.not_not.mp h2
      have hc9 : cBuild nS x = 2 := by simp [cBuild, h1, h2]
      refine ol_cx (q0 := 0) (ci := 6) [.int x] [.int 0, .ref ao] ⟨hx, hb, hml, hown, hts⟩ (mx_X4_build_f l hst G α β γ nS nO nH hz x (h1) (by omega)) (cwV 1 hts gL_build_X4_build rfl rfl rfl (by decide +kernel) ⟨Nat.le_of_ble_eq_true rfl, Nat.le_of_ble_eq_true rfl⟩) hK hN hP hE rfl rfl (cx_C G _) rfl hl.1 rfl (Nat.le_of_ble_eq_true rfl) dL_build_4 ⟨Nat.le_of_ble_eq_true rfl, Nat.le_of_ble_eq_true rfl⟩ [⟨0, 9, 12, 13⟩] ⟨0, 9, 15, 15⟩ [] (htab.trans rfl) (fun z9 h9 => by cases List.mem_singleton.mp h9; exact Or.inr ⟨by decide, "java/lang/IllegalArgumentException", (hts (.classLink RL 13 "java/lang/IllegalArgumentException") (List.mem_of_getElem? (i := 1) rfl)), hC (oXS, oXA) (List.mem_of_getElem? (i := 5) rfl)⟩) (by decide) (by decide) (hts (.classLink RL 15 "java/lang/IllegalStateException") (List.mem_of_getElem? (i := 2) rfl)) (hE.use _ (List.mem_of_getElem? (i := 2) rfl)) (fun q9 H hsz hkp => ?_)
      have hS : va_S (oL G ao) s.heap H [] := ⟨hsz, fun q hq _ => hkp q hq, fun z hz => nomatch hz⟩
      have hP := hP.kept (fun k q hk => hkp _ (vx_lt hP hk))
      have hO := hO.kept (fun k q hk => hkp _ (vx_lt hO hk))
      refine lv_astore_n (lv' := [(3, .ref q9), (0, .ref (G.2.1 0)), (1, .int x), (2, .ref ao)]) hx hb dL_build_15 rfl hl (by decide) rfl (fun ls hl => ?_)
      refine lv_iconst (v := 2) hx hb dL_build_16 (by decide) ?_
      exact ol_ret hx hb hr hlocks hS dL_build_17 (by decide) (by decide) ⟨by rw [hc9]; exact hP, by rw [hc9]; exact hO⟩ (by rw [hc9]; rfl)
  · have h1 := Bool.eq_false_iff.mpr h1
    have hc9 : cBuild nS x = 1 := by simp [cBuild, h1]
    refine ol_cx (q0 := 0) (ci := 6) [.int x] [.int 0, .ref ao] ⟨hx, hb, hml, hown, hts⟩ (mx_X4_build_r l hst G α β γ nS nO nH hz x (h1)) (cwV 1 hts gL_build_X4_build rfl rfl rfl (by decide +kernel) ⟨Nat.le_of_ble_eq_true rfl, Nat.le_of_ble_eq_true rfl⟩) hK hN hP hE rfl rfl (cx_C G _) rfl hl.1 rfl (Nat.le_of_ble_eq_true rfl) dL_build_4 ⟨Nat.le_of_ble_eq_true rfl, Nat.le_of_ble_eq_true rfl⟩ [] ⟨0, 9, 12, 13⟩ [⟨0, 9, 15, 15⟩] (htab.trans rfl) (fun z9 h9 => nomatch h9) (by decide) (by decide) (hts (.classLink RL 13 "java/lang/IllegalArgumentException") (List.mem_of_getElem? (i := 1) rfl)) (hE.use _ (List.mem_of_getElem? (i := 1) rfl)) (fun q9 H hsz hkp => ?_)
    have hS : va_S (oL G ao) s.heap H [] := ⟨hsz, fun q hq _ => hkp q hq, fun z hz => nomatch hz⟩
    have hP := hP.kept (fun k q hk => hkp _ (vx_lt hP hk))
    have hO := hO.kept (fun k q hk => hkp _ (vx_lt hO hk))
    refine lv_astore_n (lv' := [(3, .ref q9), (0, .ref (G.2.1 0)), (1, .int x), (2, .ref ao)]) hx hb dL_build_12 rfl hl (by decide) rfl (fun ls hl => ?_)
    refine lv_iconst (v := 1) hx hb dL_build_13 (by decide) ?_
    exact ol_ret hx hb hr hlocks hS dL_build_14 (by decide) (by decide) ⟨by rw [hc9]; exact hP, by rw [hc9]; exact hO⟩ (by rw [hc9]; rfl)
set_option maxHeartbeats 4000000 in
set_option maxRecDepth 100000 in
theorem mL_setPassers (l : Launch) (hst : l.stackTraces = false) (G : oG) (hI : wl_I G.2.1 137) (α β γ : oT) (nS nO nH : Nat) (hz : oOK α nS nO nH) (ao : Nat) (f : Nat → Int64) (hao : ¬ oA G ao) (x : Int32) (y : Int32) (z : Int32) : Met l yL_setPassers wsL_setPassers ({ frames := 9, cells := 1, slots := 6, locals := 149 } : Room) (va_Pc [.ref (G.2.1 0), .int x, .int y, .int z, .ref ao] (PL G (cw G (z3 α β γ)) ao f)) (oQ (some (.int (nI (cSetP nS x y z)))) (fun H9 => va_P G.1 vwCl (cw G (if cSetP nS x y z = 0 then z3 (su α 0 (oN x) (oN y) z) β γ else z3 α β γ)) H9 ∧ va_P G.1 vwCl (lw1 G ao (if cSetP nS x y z = 0 then vp_updL f 0 (α 0 (oN x) (oN y)).toInt64 else f)) H9) (oL G ao)) 1 6 (oL G ao) := by
  refine ol_body (cc := cL_setPassers) (by decide +kernel) rfl (Nat.le_of_ble_eq_true rfl) ?_
  intro p e s m below meth c ls hx hb hml hr hlocks htab hown hts hP hO hK hN hE hC hl
  have hown : s.vm.findClass RL = some m.cls := hown
  have hl : lv_has ls 6 [(0, .ref (G.2.1 0)), (1, .int x), (2, .int y), (3, .int z), (4, .ref ao)] := hl
  obtain ⟨hz1, hz2, hz3, hz4, hz5, hz6, hz7⟩ := id hz
  have e2 : oRg y 0 23 = oIn y 24 := by rw [show (23 : Int32) = nI 24 - 1 by decide]; exact oRg_p y (by decide)
  refine lv_aload hx hb dL_setPassers_0 (lv_at hl 4 rfl) ?_
  refine lv_iconst (v := 0) hx hb dL_setPassers_2 (by decide) ?_
  refine lv_aload_n hx hb dL_setPassers_3 rfl (lv_at hl 0 rfl) ?_
  refine lv_iload_n hx hb dL_setPassers_4 rfl (lv_at hl 1 rfl) ?_
  refine lv_iload_n hx hb dL_setPassers_5 rfl (lv_at hl 2 rfl) ?_
  refine lv_iload_n hx hb dL_setPassers_6 rfl (lv_at hl 3 rfl) ?_
  by_cases h1 : oIn x nS = true
  · by_cases h2 : oIn y 24 = true
    · by_cases h3 : oRg z 0 99 = true
      · have hc9 : cSetP nS x y z = 0 := by simp [cSetP, h1, h2, h3, e2]
        refine ol_cV (A0 := oL G ao) (q0 := 0) (ci := 6) [.int x, .int y, .int z] [.int 0, .ref ao] ⟨hx, hb, hml, hown, hts⟩ (m_X4_setPassers l G hI α β γ nS nO nH hz x y z (h1) (h2) (h3)) (cwV 3 hts gL_setPassers_X4_setPassers rfl rfl rfl (by decide +kernel) ⟨Nat.le_of_ble_eq_true rfl, Nat.le_of_ble_eq_true rfl⟩) hK hN hP va_S.rf (fun _ h => Or.inl h) rfl rfl (cx_C G _) rfl hl.1 rfl (Nat.le_of_ble_eq_true rfl) dL_setPassers_7 ⟨Nat.zero_le _, Nat.zero_le _⟩ (fun H locs hP hk hS => ?_)
        have hO := ol_keep hO hao hk
        refine lv_i2l (v := (α 0 (oN x) (oN y)).toInt64) hx hb dL_setPassers_10 rfl ?_
        refine ol_last hx hb hK hP hO hI hao hS dL_setPassers_11 (fun H locs hP hO hS => ?_)
        refine lv_goto (tgt := 23) hx hb dL_setPassers_12 (by decide) ?_
        refine lv_iconst (v := 0) hx hb dL_setPassers_23 (by decide) ?_
        exact ol_ret hx hb hr hlocks hS dL_setPassers_24 (by decide) (by decide) ⟨by rw [hc9]; exact hP, by rw [hc9]; exact hO⟩ (by rw [hc9]; rfl)
      · have h3 := Bool.eq_false_iff.mpr h3
        have hc9 : cSetP nS x y z = 2 := by simp [cSetP, h1, h2, h3, e2]
        refine ol_cx (q0 := 0) (ci := 6) [.int x, .int y, .int z] [.int 0, .ref ao] ⟨hx, hb, hml, hown, hts⟩ (mx_X4_setPassers_p l hst G α β γ nS nO nH hz x y z (h1) (h2) (h3)) (cwV 3 hts gL_setPassers_X4_setPassers rfl rfl rfl (by decide +kernel) ⟨Nat.le_of_ble_eq_true rfl, Nat.le_of_ble_eq_true rfl⟩) hK hN hP hE rfl rfl (cx_C G _) rfl hl.1 rfl (Nat.le_of_ble_eq_true rfl) dL_setPassers_7 ⟨Nat.le_of_ble_eq_true rfl, Nat.le_of_ble_eq_true rfl⟩ [⟨0, 12, 15, 21⟩] ⟨0, 12, 19, 13⟩ [] (htab.trans rfl) (fun z9 h9 => by cases List.mem_singleton.mp h9; exact Or.inr ⟨by decide, "java/lang/IndexOutOfBoundsException", (hts (.classLink RL 21 "java/lang/IndexOutOfBoundsException") (List.mem_of_getElem? (i := 1) rfl)), hC (oXA, oXI) (List.mem_of_getElem? (i := 2) rfl)⟩) (by decide) (by decide) (hts (.classLink RL 13 "java/lang/IllegalArgumentException") (List.mem_of_getElem? (i := 2) rfl)) (hE.use _ (List.mem_of_getElem? (i := 1) rfl)) (fun q9 H hsz hkp => ?_)
        have hS : va_S (oL G ao) s.heap H [] := ⟨hsz, fun q hq _ => hkp q hq, fun z hz => nomatch hz⟩
        have hP := hP.kept (fun k q hk => hkp _ (vx_lt hP hk))
        have hO := hO.kept (fun k q hk => hkp _ (vx_lt hO hk))
        refine lv_astore (lv' := [(5, .ref q9), (0, .ref (G.2.1 0)), (1, .int x), (2, .int y), (3, .int z), (4, .ref ao)]) hx hb dL_setPassers_19 hl (by decide) rfl (fun ls hl => ?_)
        refine lv_iconst (v := 2) hx hb dL_setPassers_21 (by decide) ?_
        exact ol_ret hx hb hr hlocks hS dL_setPassers_22 (by decide) (by decide) ⟨by rw [hc9]; exact hP, by rw [hc9]; exact hO⟩ (by rw [hc9]; rfl)
    · have h2 := Bool.eq_false_iff.mpr h2
      have hc9 : cSetP nS x y z = 1 := by simp [cSetP, h1, h2, e2]
      refine ol_cx (q0 := 0) (ci := 6) [.int x, .int y, .int z] [.int 0, .ref ao] ⟨hx, hb, hml, hown, hts⟩ (mx_X4_setPassers_h l hst G α β γ nS nO nH hz x y z (h1) (h2)) (cwV 3 hts gL_setPassers_X4_setPassers rfl rfl rfl (by decide +kernel) ⟨Nat.le_of_ble_eq_true rfl, Nat.le_of_ble_eq_true rfl⟩) hK hN hP hE rfl rfl (cx_C G _) rfl hl.1 rfl (Nat.le_of_ble_eq_true rfl) dL_setPassers_7 ⟨Nat.le_of_ble_eq_true rfl, Nat.le_of_ble_eq_true rfl⟩ [] ⟨0, 12, 15, 21⟩ [⟨0, 12, 19, 13⟩] (htab.trans rfl) (fun z9 h9 => nomatch h9) (by decide) (by decide) (hts (.classLink RL 21 "java/lang/IndexOutOfBoundsException") (List.mem_of_getElem? (i := 1) rfl)) (hE.use _ (List.mem_of_getElem? (i := 0) rfl)) (fun q9 H hsz hkp => ?_)
      have hS : va_S (oL G ao) s.heap H [] := ⟨hsz, fun q hq _ => hkp q hq, fun z hz => nomatch hz⟩
      have hP := hP.kept (fun k q hk => hkp _ (vx_lt hP hk))
      have hO := hO.kept (fun k q hk => hkp _ (vx_lt hO hk))
      refine lv_astore (lv' := [(5, .ref q9), (0, .ref (G.2.1 0)), (1, .int x), (2, .int y), (3, .int z), (4, .ref ao)]) hx hb dL_setPassers_15 hl (by decide) rfl (fun ls hl => ?_)
      refine lv_iconst (v := 1) hx hb dL_setPassers_17 (by decide) ?_
      exact ol_ret hx hb hr hlocks hS dL_setPassers_18 (by decide) (by decide) ⟨by rw [hc9]; exact hP, by rw [hc9]; exact hO⟩ (by rw [hc9]; rfl)
  · have h1 := Bool.eq_false_iff.mpr h1
    have hc9 : cSetP nS x y z = 1 := by simp [cSetP, h1, e2]
    refine ol_cx (q0 := 0) (ci := 6) [.int x, .int y, .int z] [.int 0, .ref ao] ⟨hx, hb, hml, hown, hts⟩ (mx_X4_setPassers_s l hst G α β γ nS nO nH hz x y z (h1)) (cwV 3 hts gL_setPassers_X4_setPassers rfl rfl rfl (by decide +kernel) ⟨Nat.le_of_ble_eq_true rfl, Nat.le_of_ble_eq_true rfl⟩) hK hN hP hE rfl rfl (cx_C G _) rfl hl.1 rfl (Nat.le_of_ble_eq_true rfl) dL_setPassers_7 ⟨Nat.le_of_ble_eq_true rfl, Nat.le_of_ble_eq_true rfl⟩ [] ⟨0, 12, 15, 21⟩ [⟨0, 12, 19, 13⟩] (htab.trans rfl) (fun z9 h9 => nomatch h9) (by decide) (by decide) (hts (.classLink RL 21 "java/lang/IndexOutOfBoundsException") (List.mem_of_getElem? (i := 1) rfl)) (hE.use _ (List.mem_of_getElem? (i := 0) rfl)) (fun q9 H hsz hkp => ?_)
    have hS : va_S (oL G ao) s.heap H [] := ⟨hsz, fun q hq _ => hkp q hq, fun z hz => nomatch hz⟩
    have hP := hP.kept (fun k q hk => hkp _ (vx_lt hP hk))
    have hO := hO.kept (fun k q hk => hkp _ (vx_lt hO hk))
    refine lv_astore (lv' := [(5, .ref q9), (0, .ref (G.2.1 0)), (1, .int x), (2, .int y), (3, .int z), (4, .ref ao)]) hx hb dL_setPassers_15 hl (by decide) rfl (fun ls hl => ?_)
    refine lv_iconst (v := 1) hx hb dL_setPassers_17 (by decide) ?_
    exact ol_ret hx hb hr hlocks hS dL_setPassers_18 (by decide) (by decide) ⟨by rw [hc9]; exact hP, by rw [hc9]; exact hO⟩ (by rw [hc9]; rfl)
set_option maxHeartbeats 4000000 in
set_option maxRecDepth 100000 in
theorem mL_setTaste (l : Launch) (hst : l.stackTraces = false) (G : oG) (hI : wl_I G.2.1 137) (α β γ : oT) (nS nO nH : Nat) (hz : oOK α nS nO nH) (ao : Nat) (f : Nat → Int64) (hao : ¬ oA G ao) (x : Int32) (y : Int32) (z : Int32) : Met l yL_setTaste wsL_setTaste ({ frames := 9, cells := 1, slots := 6, locals := 149 } : Room) (va_Pc [.ref (G.2.1 0), .int x, .int y, .int z, .ref ao] (PL G (cw G (z3 α β γ)) ao f)) (oQ (some (.int (nI (cSetT nS x y z)))) (fun H9 => va_P G.1 vwCl (cw G (if cSetT nS x y z = 0 then z3 (su α 1 (oN x) (oN y) z) β γ else z3 α β γ)) H9 ∧ va_P G.1 vwCl (lw1 G ao (if cSetT nS x y z = 0 then vp_updL f 0 (α 1 (oN x) (oN y)).toInt64 else f)) H9) (oL G ao)) 1 6 (oL G ao) := by
  refine ol_body (cc := cL_setTaste) (by decide +kernel) rfl (Nat.le_of_ble_eq_true rfl) ?_
  intro p e s m below meth c ls hx hb hml hr hlocks htab hown hts hP hO hK hN hE hC hl
  have hown : s.vm.findClass RL = some m.cls := hown
  have hl : lv_has ls 6 [(0, .ref (G.2.1 0)), (1, .int x), (2, .int y), (3, .int z), (4, .ref ao)] := hl
  obtain ⟨hz1, hz2, hz3, hz4, hz5, hz6, hz7⟩ := id hz
  have e2 : oRg y 0 5 = oIn y 6 := by rw [show (5 : Int32) = nI 6 - 1 by decide]; exact oRg_p y (by decide)
  refine lv_aload hx hb dL_setTaste_0 (lv_at hl 4 rfl) ?_
  refine lv_iconst (v := 0) hx hb dL_setTaste_2 (by decide) ?_
  refine lv_aload_n hx hb dL_setTaste_3 rfl (lv_at hl 0 rfl) ?_
  refine lv_iload_n hx hb dL_setTaste_4 rfl (lv_at hl 1 rfl) ?_
  refine lv_iload_n hx hb dL_setTaste_5 rfl (lv_at hl 2 rfl) ?_
  refine lv_iload_n hx hb dL_setTaste_6 rfl (lv_at hl 3 rfl) ?_
  by_cases h1 : oIn x nS = true
  · by_cases h2 : oIn y 6 = true
    · by_cases h3 : oRg z 0 9 = true
      · have hc9 : cSetT nS x y z = 0 := by simp [cSetT, h1, h2, h3, e2]
        refine ol_cV (A0 := oL G ao) (q0 := 0) (ci := 6) [.int x, .int y, .int z] [.int 0, .ref ao] ⟨hx, hb, hml, hown, hts⟩ (m_X4_setTaste l G hI α β γ nS nO nH hz x y z (h1) (h2) (h3)) (cwV 3 hts gL_setTaste_X4_setTaste rfl rfl rfl (by decide +kernel) ⟨Nat.le_of_ble_eq_true rfl, Nat.le_of_ble_eq_true rfl⟩) hK hN hP va_S.rf (fun _ h => Or.inl h) rfl rfl (cx_C G _) rfl hl.1 rfl (Nat.le_of_ble_eq_true rfl) dL_setTaste_7 ⟨Nat.zero_le _, Nat.zero_le _⟩ (fun H locs hP hk hS => ?_)
        have hO := ol_keep hO hao hk
        refine lv_i2l (v := (α 1 (oN x) (oN y)).toInt64) hx hb dL_setTaste_10 rfl ?_
        refine ol_last hx hb hK hP hO hI hao hS dL_setTaste_11 (fun H locs hP hO hS => ?_)
        refine lv_goto (tgt := 23) hx hb dL_setTaste_12 (by decide) ?_
        refine lv_iconst (v := 0) hx hb dL_setTaste_23 (by decide) ?_
        exact ol_ret hx hb hr hlocks hS dL_setTaste_24 (by decide) (by decide) ⟨by rw [hc9]; exact hP, by rw [hc9]; exact hO⟩ (by rw [hc9]; rfl)
      · have h3 := Bool.eq_false_iff.mpr h3
        have hc9 : cSetT nS x y z = 2 := by simp [cSetT, h1, h2, h3, e2]
        refine ol_cx (q0 := 0) (ci := 6) [.int x, .int y, .int z] [.int 0, .ref ao] ⟨hx, hb, hml, hown, hts⟩ (mx_X4_setTaste_p l hst G α β γ nS nO nH hz x y z (h1) (h2) (h3)) (cwV 3 hts gL_setTaste_X4_setTaste rfl rfl rfl (by decide +kernel) ⟨Nat.le_of_ble_eq_true rfl, Nat.le_of_ble_eq_true rfl⟩) hK hN hP hE rfl rfl (cx_C G _) rfl hl.1 rfl (Nat.le_of_ble_eq_true rfl) dL_setTaste_7 ⟨Nat.le_of_ble_eq_true rfl, Nat.le_of_ble_eq_true rfl⟩ [⟨0, 12, 15, 21⟩] ⟨0, 12, 19, 13⟩ [] (htab.trans rfl) (fun z9 h9 => by cases List.mem_singleton.mp h9; exact Or.inr ⟨by decide, "java/lang/IndexOutOfBoundsException", (hts (.classLink RL 21 "java/lang/IndexOutOfBoundsException") (List.mem_of_getElem? (i := 1) rfl)), hC (oXA, oXI) (List.mem_of_getElem? (i := 2) rfl)⟩) (by decide) (by decide) (hts (.classLink RL 13 "java/lang/IllegalArgumentException") (List.mem_of_getElem? (i := 2) rfl)) (hE.use _ (List.mem_of_getElem? (i := 1) rfl)) (fun q9 H hsz hkp => ?_)
        have hS : va_S (oL G ao) s.heap H [] := ⟨hsz, fun q hq _ => hkp q hq, fun z hz => nomatch hz⟩
        have hP := hP.kept (fun k q hk => hkp _ (vx_lt hP hk))
        have hO := hO.kept (fun k q hk => hkp _ (vx_lt hO hk))
        refine lv_astore (lv' := [(5, .ref q9), (0, .ref (G.2.1 0)), (1, .int x), (2, .int y), (3, .int z), (4, .ref ao)]) hx hb dL_setTaste_19 hl (by decide) rfl (fun ls hl => ?_)
        refine lv_iconst (v := 2) hx hb dL_setTaste_21 (by decide) ?_
        exact ol_ret hx hb hr hlocks hS dL_setTaste_22 (by decide) (by decide) ⟨by rw [hc9]; exact hP, by rw [hc9]; exact hO⟩ (by rw [hc9]; rfl)
    · have h2 := Bool.eq_false_iff.mpr h2
      have hc9 : cSetT nS x y z = 1 := by simp [cSetT, h1, h2, e2]
      refine ol_cx (q0 := 0) (ci := 6) [.int x, .int y, .int z] [.int 0, .ref ao] ⟨hx, hb, hml, hown, hts⟩ (mx_X4_setTaste_h l hst G α β γ nS nO nH hz x y z (h1) (h2)) (cwV 3 hts gL_setTaste_X4_setTaste rfl rfl rfl (by decide +kernel) ⟨Nat.le_of_ble_eq_true rfl, Nat.le_of_ble_eq_true rfl⟩) hK hN hP hE rfl rfl (cx_C G _) rfl hl.1 rfl (Nat.le_of_ble_eq_true rfl) dL_setTaste_7 ⟨Nat.le_of_ble_eq_true rfl, Nat.le_of_ble_eq_true rfl⟩ [] ⟨0, 12, 15, 21⟩ [⟨0, 12, 19, 13⟩] (htab.trans rfl) (fun z9 h9 => nomatch h9) (by decide) (by decide) (hts (.classLink RL 21 "java/lang/IndexOutOfBoundsException") (List.mem_of_getElem? (i := 1) rfl)) (hE.use _ (List.mem_of_getElem? (i := 0) rfl)) (fun q9 H hsz hkp => ?_)
      have hS : va_S (oL G ao) s.heap H [] := ⟨hsz, fun q hq _ => hkp q hq, fun z hz => nomatch hz⟩
      have hP := hP.kept (fun k q hk => hkp _ (vx_lt hP hk))
      have hO := hO.kept (fun k q hk => hkp _ (vx_lt hO hk))
      refine lv_astore (lv' := [(5, .ref q9), (0, .ref (G.2.1 0)), (1, .int x), (2, .int y), (3, .int z), (4, .ref ao)]) hx hb dL_setTaste_15 hl (by decide) rfl (fun ls hl => ?_)
      refine lv_iconst (v := 1) hx hb dL_setTaste_17 (by decide) ?_
      exact ol_ret hx hb hr hlocks hS dL_setTaste_18 (by decide) (by decide) ⟨by rw [hc9]; exact hP, by rw [hc9]; exact hO⟩ (by rw [hc9]; rfl)
  · have h1 := Bool.eq_false_iff.mpr h1
    have hc9 : cSetT nS x y z = 1 := by simp [cSetT, h1, e2]
    refine ol_cx (q0 := 0) (ci := 6) [.int x, .int y, .int z] [.int 0, .ref ao] ⟨hx, hb, hml, hown, hts⟩ (mx_X4_setTaste_s l hst G α β γ nS nO nH hz x y z (h1)) (cwV 3 hts gL_setTaste_X4_setTaste rfl rfl rfl (by decide +kernel) ⟨Nat.le_of_ble_eq_true rfl, Nat.le_of_ble_eq_true rfl⟩) hK hN hP hE rfl rfl (cx_C G _) rfl hl.1 rfl (Nat.le_of_ble_eq_true rfl) dL_setTaste_7 ⟨Nat.le_of_ble_eq_true rfl, Nat.le_of_ble_eq_true rfl⟩ [] ⟨0, 12, 15, 21⟩ [⟨0, 12, 19, 13⟩] (htab.trans rfl) (fun z9 h9 => nomatch h9) (by decide) (by decide) (hts (.classLink RL 21 "java/lang/IndexOutOfBoundsException") (List.mem_of_getElem? (i := 1) rfl)) (hE.use _ (List.mem_of_getElem? (i := 0) rfl)) (fun q9 H hsz hkp => ?_)
    have hS : va_S (oL G ao) s.heap H [] := ⟨hsz, fun q hq _ => hkp q hq, fun z hz => nomatch hz⟩
    have hP := hP.kept (fun k q hk => hkp _ (vx_lt hP hk))
    have hO := hO.kept (fun k q hk => hkp _ (vx_lt hO hk))
    refine lv_astore (lv' := [(5, .ref q9), (0, .ref (G.2.1 0)), (1, .int x), (2, .int y), (3, .int z), (4, .ref ao)]) hx hb dL_setTaste_15 hl (by decide) rfl (fun ls hl => ?_)
    refine lv_iconst (v := 1) hx hb dL_setTaste_17 (by decide) ?_
    exact ol_ret hx hb hr hlocks hS dL_setTaste_18 (by decide) (by decide) ⟨by rw [hc9]; exact hP, by rw [hc9]; exact hO⟩ (by rw [hc9]; rfl)
set_option maxHeartbeats 4000000 in
set_option maxRecDepth 100000 in
theorem mL_street (l : Launch) (hst : l.stackTraces = false) (G : oG) (hI : wl_I G.2.1 137) (α β γ : oT) (nS nO nH : Nat) (hz : oOK α nS nO nH) (ao : Nat) (f : Nat → Int64) (hao : ¬ oA G ao) (x : Int32) (y : Int32) : Met l yL_street wsL_street ({ frames := 9, cells := 1, slots := 6, locals := 146 } : Room) (va_Pc [.ref (G.2.1 0), .int x, .int y, .ref ao] (PL G (cw G (z3 α β γ)) ao f)) (oQ (some (.int (nI (cStreet nS x y)))) (fun H9 => va_P G.1 vwCl (cw G (z3 α β γ)) H9 ∧ va_P G.1 vwCl (lw1 G ao (if cStreet nS x y = 0 then vp_updL f 0 (oSFact α nO nH (oN x) (oN y)).toInt64 else f)) H9) (oL G ao)) 1 6 (oL G ao) := by
  refine ol_body (cc := cL_street) (by decide +kernel) rfl (Nat.le_of_ble_eq_true rfl) ?_
  intro p e s m below meth c ls hx hb hml hr hlocks htab hown hts hP hO hK hN hE hC hl
  have hown : s.vm.findClass RL = some m.cls := hown
  have hl : lv_has ls 5 [(0, .ref (G.2.1 0)), (1, .int x), (2, .int y), (3, .ref ao)] := hl
  obtain ⟨hz1, hz2, hz3, hz4, hz5, hz6, hz7⟩ := id hz
  have e2 : oRg y 0 7 = oIn y 8 := by rw [show (7 : Int32) = nI 8 - 1 by decide]; exact oRg_p y (by decide)
  refine lv_aload_n hx hb dL_street_0 rfl (lv_at hl 3 rfl) ?_
  refine lv_iconst (v := 0) hx hb dL_street_1 (by decide) ?_
  refine lv_aload_n hx hb dL_street_2 rfl (lv_at hl 0 rfl) ?_
  refine lv_iload_n hx hb dL_street_3 rfl (lv_at hl 1 rfl) ?_
  refine lv_iload_n hx hb dL_street_4 rfl (lv_at hl 2 rfl) ?_
  by_cases h1 : oIn x nS = true
  · by_cases h2 : oIn y 8 = true
    · have hc9 : cStreet nS x y = 0 := by simp [cStreet, h1, h2, e2]
      refine o_cVi (q0 := 0) (ci := 6) [.int x, .int y] [.int 0, .ref ao] ⟨hx, hb, hml, hown, hts⟩ (m_X4_street l G α β γ nS nO nH hz x y (h1) (h2)) (cwV 2 hts gL_street_X4_street rfl rfl rfl (by decide +kernel) ⟨Nat.le_of_ble_eq_true rfl, Nat.le_of_ble_eq_true rfl⟩) hK hN hP rfl rfl (cx_C G _) rfl hl.1 rfl (Nat.le_of_ble_eq_true rfl) dL_street_5 ⟨Nat.zero_le _, Nat.zero_le _⟩ ?_
      have hS : va_S (oL G ao) s.heap s.heap [] := va_S.rf
      refine lv_i2l (v := (oSFact α nO nH (oN x) (oN y)).toInt64) hx hb dL_street_8 rfl ?_
      refine ol_last hx hb hK hP hO hI hao hS dL_street_9 (fun H locs hP hO hS => ?_)
      refine lv_goto (tgt := 17) hx hb dL_street_10 (by decide) ?_
      refine lv_iconst (v := 0) hx hb dL_street_17 (by decide) ?_
      exact ol_ret hx hb hr hlocks hS dL_street_18 (by decide) (by decide) ⟨by exact hP, by rw [hc9]; exact hO⟩ (by rw [hc9]; rfl)
    · have h2 := Bool.eq_false_iff.mpr h2
      have hc9 : cStreet nS x y = 1 := by simp [cStreet, h1, h2, e2]
      refine ol_cx (q0 := 0) (ci := 6) [.int x, .int y] [.int 0, .ref ao] ⟨hx, hb, hml, hown, hts⟩ (mx_X4_street_h l hst G α β γ nS nO nH hz x y (h1) (h2)) (cwV 2 hts gL_street_X4_street rfl rfl rfl (by decide +kernel) ⟨Nat.le_of_ble_eq_true rfl, Nat.le_of_ble_eq_true rfl⟩) hK hN hP hE rfl rfl (cx_C G _) rfl hl.1 rfl (Nat.le_of_ble_eq_true rfl) dL_street_5 ⟨Nat.le_of_ble_eq_true rfl, Nat.le_of_ble_eq_true rfl⟩ [] ⟨0, 10, 13, 21⟩ [] (htab.trans rfl) (fun z9 h9 => nomatch h9) (by decide) (by decide) (hts (.classLink RL 21 "java/lang/IndexOutOfBoundsException") (List.mem_of_getElem? (i := 1) rfl)) (hE.use _ (List.mem_of_getElem? (i := 0) rfl)) (fun q9 H hsz hkp => ?_)
      have hS : va_S (oL G ao) s.heap H [] := ⟨hsz, fun q hq _ => hkp q hq, fun z hz => nomatch hz⟩
      have hP := hP.kept (fun k q hk => hkp _ (vx_lt hP hk))
      have hO := hO.kept (fun k q hk => hkp _ (vx_lt hO hk))
      refine lv_astore (lv' := [(4, .ref q9), (0, .ref (G.2.1 0)), (1, .int x), (2, .int y), (3, .ref ao)]) hx hb dL_street_13 hl (by decide) rfl (fun ls hl => ?_)
      refine lv_iconst (v := 1) hx hb dL_street_15 (by decide) ?_
      exact ol_ret hx hb hr hlocks hS dL_street_16 (by decide) (by decide) ⟨by exact hP, by rw [hc9]; exact hO⟩ (by rw [hc9]; rfl)
  · have h1 := Bool.eq_false_iff.mpr h1
    have hc9 : cStreet nS x y = 1 := by simp [cStreet, h1, e2]
    refine ol_cx (q0 := 0) (ci := 6) [.int x, .int y] [.int 0, .ref ao] ⟨hx, hb, hml, hown, hts⟩ (mx_X4_street_s l hst G α β γ nS nO nH hz x y (h1)) (cwV 2 hts gL_street_X4_street rfl rfl rfl (by decide +kernel) ⟨Nat.le_of_ble_eq_true rfl, Nat.le_of_ble_eq_true rfl⟩) hK hN hP hE rfl rfl (cx_C G _) rfl hl.1 rfl (Nat.le_of_ble_eq_true rfl) dL_street_5 ⟨Nat.le_of_ble_eq_true rfl, Nat.le_of_ble_eq_true rfl⟩ [] ⟨0, 10, 13, 21⟩ [] (htab.trans rfl) (fun z9 h9 => nomatch h9) (by decide) (by decide) (hts (.classLink RL 21 "java/lang/IndexOutOfBoundsException") (List.mem_of_getElem? (i := 1) rfl)) (hE.use _ (List.mem_of_getElem? (i := 0) rfl)) (fun q9 H hsz hkp => ?_)
    have hS : va_S (oL G ao) s.heap H [] := ⟨hsz, fun q hq _ => hkp q hq, fun z hz => nomatch hz⟩
    have hP := hP.kept (fun k q hk => hkp _ (vx_lt hP hk))
    have hO := hO.kept (fun k q hk => hkp _ (vx_lt hO hk))
    refine lv_astore (lv' := [(4, .ref q9), (0, .ref (G.2.1 0)), (1, .int x), (2, .int y), (3, .ref ao)]) hx hb dL_street_13 hl (by decide) rfl (fun ls hl => ?_)
    refine lv_iconst (v := 1) hx hb dL_street_15 (by decide) ?_
    exact ol_ret hx hb hr hlocks hS dL_street_16 (by decide) (by decide) ⟨by exact hP, by rw [hc9]; exact hO⟩ (by rw [hc9]; rfl)
set_option maxHeartbeats 4000000 in
set_option maxRecDepth 100000 in
theorem mL_ear (l : Launch) (hst : l.stackTraces = false) (G : oG) (hI : wl_I G.2.1 137) (α β γ : oT) (nS nO nH : Nat) (hz : oOK α nS nO nH) (ao : Nat) (f : Nat → Int64) (hao : ¬ oA G ao) (x : Int32) (y : Int32) (bb : Bool) : Met l yL_ear wsL_ear ({ frames := 9, cells := 1, slots := 6, locals := 148 } : Room) (va_Pc [.ref (G.2.1 0), .int x, .int y, .int (bI bb), .ref ao] (PL G (cw G (z3 α β γ)) ao f)) (oQ (some (.int (nI (cEar nS x y)))) (fun H9 => va_P G.1 vwCl (cw G (z3 α β γ)) H9 ∧ va_P G.1 vwCl (lw1 G ao (if cEar nS x y = 0 then vp_updL f 0 (if bb = true then α 1 (oN x) (oN y) else α 2 (oN x) (oN y)).toInt64 else f)) H9) (oL G ao)) 1 6 (oL G ao) := by
  refine ol_body (cc := cL_ear) (by decide +kernel) rfl (Nat.le_of_ble_eq_true rfl) ?_
  intro p e s m below meth c ls hx hb hml hr hlocks htab hown hts hP hO hK hN hE hC hl
  have hown : s.vm.findClass RL = some m.cls := hown
  have hl : lv_has ls 6 [(0, .ref (G.2.1 0)), (1, .int x), (2, .int y), (3, .int (bI bb)), (4, .ref ao)] := hl
  obtain ⟨hz1, hz2, hz3, hz4, hz5, hz6, hz7⟩ := id hz
  have e2 : oRg y 0 5 = oIn y 6 := by rw [show (5 : Int32) = nI 6 - 1 by decide]; exact oRg_p y (by decide)
  refine lv_aload hx hb dL_ear_0 (lv_at hl 4 rfl) ?_
  refine lv_iconst (v := 0) hx hb dL_ear_2 (by decide) ?_
  refine lv_aload_n hx hb dL_ear_3 rfl (lv_at hl 0 rfl) ?_
  refine lv_iload_n hx hb dL_ear_4 rfl (lv_at hl 1 rfl) ?_
  refine lv_iload_n hx hb dL_ear_5 rfl (lv_at hl 2 rfl) ?_
  refine lv_iload_n hx hb dL_ear_6 rfl (lv_at hl 3 rfl) ?_
  by_cases h1 : oIn x nS = true
  · by_cases h2 : oIn y 6 = true
    · have hc9 : cEar nS x y = 0 := by simp [cEar, h1, h2, e2]
      refine o_cVi (q0 := 0) (ci := 6) [.int x, .int y, .int (bI bb)] [.int 0, .ref ao] ⟨hx, hb, hml, hown, hts⟩ (m_X4_ear l G α β γ nS nO nH hz x y bb (h1) (h2)) (cwV 3 hts gL_ear_X4_ear rfl rfl rfl (by decide +kernel) ⟨Nat.le_of_ble_eq_true rfl, Nat.le_of_ble_eq_true rfl⟩) hK hN hP rfl rfl (cx_C G _) rfl hl.1 rfl (Nat.le_of_ble_eq_true rfl) dL_ear_7 ⟨Nat.zero_le _, Nat.zero_le _⟩ ?_
      have hS : va_S (oL G ao) s.heap s.heap [] := va_S.rf
      refine lv_i2l (v := (if bb = true then α 1 (oN x) (oN y) else α 2 (oN x) (oN y)).toInt64) hx hb dL_ear_10 rfl ?_
      refine ol_last hx hb hK hP hO hI hao hS dL_ear_11 (fun H locs hP hO hS => ?_)
      refine lv_goto (tgt := 19) hx hb dL_ear_12 (by decide) ?_
      refine lv_iconst (v := 0) hx hb dL_ear_19 (by decide) ?_
      exact ol_ret hx hb hr hlocks hS dL_ear_20 (by decide) (by decide) ⟨by exact hP, by rw [hc9]; exact hO⟩ (by rw [hc9]; rfl)
    · have h2 := Bool.eq_false_iff.mpr h2
      have hc9 : cEar nS x y = 1 := by simp [cEar, h1, h2, e2]
      refine ol_cx (q0 := 0) (ci := 6) [.int x, .int y, .int (bI bb)] [.int 0, .ref ao] ⟨hx, hb, hml, hown, hts⟩ (mx_X4_ear_h l hst G α β γ nS nO nH hz x y bb (h1) (h2)) (cwV 3 hts gL_ear_X4_ear rfl rfl rfl (by decide +kernel) ⟨Nat.le_of_ble_eq_true rfl, Nat.le_of_ble_eq_true rfl⟩) hK hN hP hE rfl rfl (cx_C G _) rfl hl.1 rfl (Nat.le_of_ble_eq_true rfl) dL_ear_7 ⟨Nat.le_of_ble_eq_true rfl, Nat.le_of_ble_eq_true rfl⟩ [] ⟨0, 12, 15, 21⟩ [] (htab.trans rfl) (fun z9 h9 => nomatch h9) (by decide) (by decide) (hts (.classLink RL 21 "java/lang/IndexOutOfBoundsException") (List.mem_of_getElem? (i := 1) rfl)) (hE.use _ (List.mem_of_getElem? (i := 0) rfl)) (fun q9 H hsz hkp => ?_)
      have hS : va_S (oL G ao) s.heap H [] := ⟨hsz, fun q hq _ => hkp q hq, fun z hz => nomatch hz⟩
      have hP := hP.kept (fun k q hk => hkp _ (vx_lt hP hk))
      have hO := hO.kept (fun k q hk => hkp _ (vx_lt hO hk))
      refine lv_astore (lv' := [(5, .ref q9), (0, .ref (G.2.1 0)), (1, .int x), (2, .int y), (3, .int (bI bb)), (4, .ref ao)]) hx hb dL_ear_15 hl (by decide) rfl (fun ls hl => ?_)
      refine lv_iconst (v := 1) hx hb dL_ear_17 (by decide) ?_
      exact ol_ret hx hb hr hlocks hS dL_ear_18 (by decide) (by decide) ⟨by exact hP, by rw [hc9]; exact hO⟩ (by rw [hc9]; rfl)
  · have h1 := Bool.eq_false_iff.mpr h1
    have hc9 : cEar nS x y = 1 := by simp [cEar, h1, e2]
    refine ol_cx (q0 := 0) (ci := 6) [.int x, .int y, .int (bI bb)] [.int 0, .ref ao] ⟨hx, hb, hml, hown, hts⟩ (mx_X4_ear_s l hst G α β γ nS nO nH hz x y bb (h1)) (cwV 3 hts gL_ear_X4_ear rfl rfl rfl (by decide +kernel) ⟨Nat.le_of_ble_eq_true rfl, Nat.le_of_ble_eq_true rfl⟩) hK hN hP hE rfl rfl (cx_C G _) rfl hl.1 rfl (Nat.le_of_ble_eq_true rfl) dL_ear_7 ⟨Nat.le_of_ble_eq_true rfl, Nat.le_of_ble_eq_true rfl⟩ [] ⟨0, 12, 15, 21⟩ [] (htab.trans rfl) (fun z9 h9 => nomatch h9) (by decide) (by decide) (hts (.classLink RL 21 "java/lang/IndexOutOfBoundsException") (List.mem_of_getElem? (i := 1) rfl)) (hE.use _ (List.mem_of_getElem? (i := 0) rfl)) (fun q9 H hsz hkp => ?_)
    have hS : va_S (oL G ao) s.heap H [] := ⟨hsz, fun q hq _ => hkp q hq, fun z hz => nomatch hz⟩
    have hP := hP.kept (fun k q hk => hkp _ (vx_lt hP hk))
    have hO := hO.kept (fun k q hk => hkp _ (vx_lt hO hk))
    refine lv_astore (lv' := [(5, .ref q9), (0, .ref (G.2.1 0)), (1, .int x), (2, .int y), (3, .int (bI bb)), (4, .ref ao)]) hx hb dL_ear_15 hl (by decide) rfl (fun ls hl => ?_)
    refine lv_iconst (v := 1) hx hb dL_ear_17 (by decide) ?_
    exact ol_ret hx hb hr hlocks hS dL_ear_18 (by decide) (by decide) ⟨by exact hP, by rw [hc9]; exact hO⟩ (by rw [hc9]; rfl)
set_option maxHeartbeats 4000000 in
set_option maxRecDepth 100000 in
theorem mL_addOrgan (l : Launch) (hst : l.stackTraces = false) (G : oG) (hI : wl_I G.2.1 137) (α β γ : oT) (nS nO nH : Nat) (hz : oOK α nS nO nH) (ao : Nat) (f : Nat → Int64) (hao : ¬ oA G ao) (x : Int32) (y : Int32) (z : Int32) : Met l yL_addOrgan wsL_addOrgan ({ frames := 10, cells := 1, slots := 6, locals := 169 } : Room) (va_Pc [.ref (G.2.1 0), .int x, .int y, .int z, .ref ao] (PL G (cw G (z3 α β γ)) ao f)) (oQ (some (.int (nI (cAdd nS nO (oNp α) x y z)))) (fun H9 => va_P G.1 vwCl (cw G (if cAdd nS nO (oNp α) x y z = 0 then z3 (su (oPutB (su (oMove α nO x y 0) 13 nO 0 z) nO 1) 18 0 1 (nI (nO + 1))) β γ else z3 α β γ)) H9 ∧ va_P G.1 vwCl (lw1 G ao (if cAdd nS nO (oNp α) x y z = 0 then vp_updL f 0 (nI nO).toInt64 else f)) H9) (oL G ao)) 1 6 (oL G ao) := by
  refine ol_body (cc := cL_addOrgan) (by decide +kernel) rfl (Nat.le_of_ble_eq_true rfl) ?_
  intro p e s m below meth c ls hx hb hml hr hlocks htab hown hts hP hO hK hN hE hC hl
  have hown : s.vm.findClass RL = some m.cls := hown
  have hl : lv_has ls 6 [(0, .ref (G.2.1 0)), (1, .int x), (2, .int y), (3, .int z), (4, .ref ao)] := hl
  obtain ⟨hz1, hz2, hz3, hz4, hz5, hz6, hz7⟩ := id hz
  refine lv_aload hx hb dL_addOrgan_0 (lv_at hl 4 rfl) ?_
  refine lv_iconst (v := 0) hx hb dL_addOrgan_2 (by decide) ?_
  refine lv_aload_n hx hb dL_addOrgan_3 rfl (lv_at hl 0 rfl) ?_
  refine lv_iload_n hx hb dL_addOrgan_4 rfl (lv_at hl 1 rfl) ?_
  refine lv_iload_n hx hb dL_addOrgan_5 rfl (lv_at hl 2 rfl) ?_
  refine lv_iload_n hx hb dL_addOrgan_6 rfl (lv_at hl 3 rfl) ?_
  by_cases h1 : oIn x nS = true
  · by_cases h2 : oIn y (oNp α (oN x)) = true
    · by_cases h3 : oRg z 1 9 = true
      · by_cases h4 : ¬ nO = 8
        · have hc9 : cAdd nS nO (oNp α) x y z = 0 := by simp [cAdd, h1, h2, h3, h4]
          refine ol_cV (A0 := oL G ao) (q0 := 0) (ci := 6) [.int x, .int y, .int z] [.int 0, .ref ao] ⟨hx, hb, hml, hown, hts⟩ (m_X4_addOrgan l G hI α β γ nS nO nH hz x y z (h1) (h2) (h3) (by omega)) (cwV 3 hts gL_addOrgan_X4_addOrgan rfl rfl rfl (by decide +kernel) ⟨Nat.le_of_ble_eq_true rfl, Nat.le_of_ble_eq_true rfl⟩) hK hN hP va_S.rf (fun _ h => Or.inl h) rfl rfl (cx_C G _) rfl hl.1 rfl (Nat.le_of_ble_eq_true rfl) dL_addOrgan_7 ⟨Nat.zero_le _, Nat.zero_le _⟩ (fun H locs hP hk hS => ?_)
          have hO := ol_keep hO hao hk
          refine lv_i2l (v := (nI nO).toInt64) hx hb dL_addOrgan_10 rfl ?_
          refine ol_last hx hb hK hP hO hI hao hS dL_addOrgan_11 (fun H locs hP hO hS => ?_)
          refine lv_goto (tgt := 27) hx hb dL_addOrgan_12 (by decide) ?_
          refine lv_iconst (v := 0) hx hb dL_addOrgan_27 (by decide) ?_
          exact ol_ret hx hb hr hlocks hS dL_addOrgan_28 (by decide) (by decide) ⟨by rw [hc9]; exact hP, by rw [hc9]; exact hO⟩ (by rw [hc9]; rfl)
        · have h4 := Decidable.not_not.mp h4
          have hc9 : cAdd nS nO (oNp α) x y z = 3 := by simp [cAdd, h1, h2, h3, h4]
          refine ol_cx (q0 := 0) (ci := 6) [.int x, .int y, .int z] [.int 0, .ref ao] ⟨hx, hb, hml, hown, hts⟩ (mx_X4_addOrgan_f l hst G α β γ nS nO nH hz x y z (h1) (h2) (h3) (by omega)) (cwV 3 hts gL_addOrgan_X4_addOrgan rfl rfl rfl (by decide +kernel) ⟨Nat.le_of_ble_eq_true rfl, Nat.le_of_ble_eq_true rfl⟩) hK hN hP hE rfl rfl (cx_C G _) rfl hl.1 rfl (Nat.le_of_ble_eq_true rfl) dL_addOrgan_7 ⟨Nat.le_of_ble_eq_true rfl, Nat.le_of_ble_eq_true rfl⟩ [⟨0, 12, 15, 21⟩, ⟨0, 12, 19, 13⟩] ⟨0, 12, 23, 15⟩ [] (htab.trans rfl) (fun z9 h9 => by rcases List.mem_cons.mp h9 with h8 | h8; (cases h8; exact Or.inr ⟨by decide, "java/lang/IndexOutOfBoundsException", (hts (.classLink RL 21 "java/lang/IndexOutOfBoundsException") (List.mem_of_getElem? (i := 1) rfl)), hC (oXS, oXI) (List.mem_of_getElem? (i := 4) rfl)⟩); (cases List.mem_singleton.mp h8; exact Or.inr ⟨by decide, "java/lang/IllegalArgumentException", (hts (.classLink RL 13 "java/lang/IllegalArgumentException") (List.mem_of_getElem? (i := 2) rfl)), hC (oXS, oXA) (List.mem_of_getElem? (i := 5) rfl)⟩)) (by decide) (by decide) (hts (.classLink RL 15 "java/lang/IllegalStateException") (List.mem_of_getElem? (i := 3) rfl)) (hE.use _ (List.mem_of_getElem? (i := 2) rfl)) (fun q9 H hsz hkp => ?_)
          have hS : va_S (oL G ao) s.heap H [] := ⟨hsz, fun q hq _ => hkp q hq, fun z hz => nomatch hz⟩
          have hP := hP.kept (fun k q hk => hkp _ (vx_lt hP hk))
          have hO := hO.kept (fun k q hk => hkp _ (vx_lt hO hk))
          refine lv_astore (lv' := [(5, .ref q9), (0, .ref (G.2.1 0)), (1, .int x), (2, .int y), (3, .int z), (4, .ref ao)]) hx hb dL_addOrgan_23 hl (by decide) rfl (fun ls hl => ?_)
          refine lv_iconst (v := 3) hx hb dL_addOrgan_25 (by decide) ?_
          exact ol_ret hx hb hr hlocks hS dL_addOrgan_26 (by decide) (by decide) ⟨by rw [hc9]; exact hP, by rw [hc9]; exact hO⟩ (by rw [hc9]; rfl)
      · have h3 := Bool.eq_false_iff.mpr h3
        have hc9 : cAdd nS nO (oNp α) x y z = 2 := by simp [cAdd, h1, h2, h3]
        refine ol_cx (q0 := 0) (ci := 6) [.int x, .int y, .int z] [.int 0, .ref ao] ⟨hx, hb, hml, hown, hts⟩ (mx_X4_addOrgan_r l hst G α β γ nS nO nH hz x y z (h1) (h2) (h3)) (cwV 3 hts gL_addOrgan_X4_addOrgan rfl rfl rfl (by decide +kernel) ⟨Nat.le_of_ble_eq_true rfl, Nat.le_of_ble_eq_true rfl⟩) hK hN hP hE rfl rfl (cx_C G _) rfl hl.1 rfl (Nat.le_of_ble_eq_true rfl) dL_addOrgan_7 ⟨Nat.le_of_ble_eq_true rfl, Nat.le_of_ble_eq_true rfl⟩ [⟨0, 12, 15, 21⟩] ⟨0, 12, 19, 13⟩ [⟨0, 12, 23, 15⟩] (htab.trans rfl) (fun z9 h9 => by cases List.mem_singleton.mp h9; exact Or.inr ⟨by decide, "java/lang/IndexOutOfBoundsException", (hts (.classLink RL 21 "java/lang/IndexOutOfBoundsException") (List.mem_of_getElem? (i := 1) rfl)), hC (oXA, oXI) (List.mem_of_getElem? (i := 2) rfl)⟩) (by decide) (by decide) (hts (.classLink RL 13 "java/lang/IllegalArgumentException") (List.mem_of_getElem? (i := 2) rfl)) (hE.use _ (List.mem_of_getElem? (i := 1) rfl)) (fun q9 H hsz hkp => ?_)
        have hS : va_S (oL G ao) s.heap H [] := ⟨hsz, fun q hq _ => hkp q hq, fun z hz => nomatch hz⟩
        have hP := hP.kept (fun k q hk => hkp _ (vx_lt hP hk))
        have hO := hO.kept (fun k q hk => hkp _ (vx_lt hO hk))
        refine lv_astore (lv' := [(5, .ref q9), (0, .ref (G.2.1 0)), (1, .int x), (2, .int y), (3, .int z), (4, .ref ao)]) hx hb dL_addOrgan_19 hl (by decide) rfl (fun ls hl => ?_)
        refine lv_iconst (v := 2) hx hb dL_addOrgan_21 (by decide) ?_
        exact ol_ret hx hb hr hlocks hS dL_addOrgan_22 (by decide) (by decide) ⟨by rw [hc9]; exact hP, by rw [hc9]; exact hO⟩ (by rw [hc9]; rfl)
    · have h2 := Bool.eq_false_iff.mpr h2
      have hc9 : cAdd nS nO (oNp α) x y z = 1 := by simp [cAdd, h1, h2]
      refine ol_cx (q0 := 0) (ci := 6) [.int x, .int y, .int z] [.int 0, .ref ao] ⟨hx, hb, hml, hown, hts⟩ (mx_X4_addOrgan_b l hst G α β γ nS nO nH hz x y z (h1) (h2)) (cwV 3 hts gL_addOrgan_X4_addOrgan rfl rfl rfl (by decide +kernel) ⟨Nat.le_of_ble_eq_true rfl, Nat.le_of_ble_eq_true rfl⟩) hK hN hP hE rfl rfl (cx_C G _) rfl hl.1 rfl (Nat.le_of_ble_eq_true rfl) dL_addOrgan_7 ⟨Nat.le_of_ble_eq_true rfl, Nat.le_of_ble_eq_true rfl⟩ [] ⟨0, 12, 15, 21⟩ [⟨0, 12, 19, 13⟩, ⟨0, 12, 23, 15⟩] (htab.trans rfl) (fun z9 h9 => nomatch h9) (by decide) (by decide) (hts (.classLink RL 21 "java/lang/IndexOutOfBoundsException") (List.mem_of_getElem? (i := 1) rfl)) (hE.use _ (List.mem_of_getElem? (i := 0) rfl)) (fun q9 H hsz hkp => ?_)
      have hS : va_S (oL G ao) s.heap H [] := ⟨hsz, fun q hq _ => hkp q hq, fun z hz => nomatch hz⟩
      have hP := hP.kept (fun k q hk => hkp _ (vx_lt hP hk))
      have hO := hO.kept (fun k q hk => hkp _ (vx_lt hO hk))
      refine lv_astore (lv' := [(5, .ref q9), (0, .ref (G.2.1 0)), (1, .int x), (2, .int y), (3, .int z), (4, .ref ao)]) hx hb dL_addOrgan_15 hl (by decide) rfl (fun ls hl => ?_)
      refine lv_iconst (v := 1) hx hb dL_addOrgan_17 (by decide) ?_
      exact ol_ret hx hb hr hlocks hS dL_addOrgan_18 (by decide) (by decide) ⟨by rw [hc9]; exact hP, by rw [hc9]; exact hO⟩ (by rw [hc9]; rfl)
  · have h1 := Bool.eq_false_iff.mpr h1
    have hc9 : cAdd nS nO (oNp α) x y z = 1 := by simp [cAdd, h1]
    refine ol_cx (q0 := 0) (ci := 6) [.int x, .int y, .int z] [.int 0, .ref ao] ⟨hx, hb, hml, hown, hts⟩ (mx_X4_addOrgan_a l hst G α β γ nS nO nH hz x y z (h1)) (cwV 3 hts gL_addOrgan_X4_addOrgan rfl rfl rfl (by decide +kernel) ⟨Nat.le_of_ble_eq_true rfl, Nat.le_of_ble_eq_true rfl⟩) hK hN hP hE rfl rfl (cx_C G _) rfl hl.1 rfl (Nat.le_of_ble_eq_true rfl) dL_addOrgan_7 ⟨Nat.le_of_ble_eq_true rfl, Nat.le_of_ble_eq_true rfl⟩ [] ⟨0, 12, 15, 21⟩ [⟨0, 12, 19, 13⟩, ⟨0, 12, 23, 15⟩] (htab.trans rfl) (fun z9 h9 => nomatch h9) (by decide) (by decide) (hts (.classLink RL 21 "java/lang/IndexOutOfBoundsException") (List.mem_of_getElem? (i := 1) rfl)) (hE.use _ (List.mem_of_getElem? (i := 0) rfl)) (fun q9 H hsz hkp => ?_)
    have hS : va_S (oL G ao) s.heap H [] := ⟨hsz, fun q hq _ => hkp q hq, fun z hz => nomatch hz⟩
    have hP := hP.kept (fun k q hk => hkp _ (vx_lt hP hk))
    have hO := hO.kept (fun k q hk => hkp _ (vx_lt hO hk))
    refine lv_astore (lv' := [(5, .ref q9), (0, .ref (G.2.1 0)), (1, .int x), (2, .int y), (3, .int z), (4, .ref ao)]) hx hb dL_addOrgan_15 hl (by decide) rfl (fun ls hl => ?_)
    refine lv_iconst (v := 1) hx hb dL_addOrgan_17 (by decide) ?_
    exact ol_ret hx hb hr hlocks hS dL_addOrgan_18 (by decide) (by decide) ⟨by rw [hc9]; exact hP, by rw [hc9]; exact hO⟩ (by rw [hc9]; rfl)
set_option maxHeartbeats 4000000 in
set_option maxRecDepth 100000 in
theorem mL_setBarrel (l : Launch) (hst : l.stackTraces = false) (G : oG) (hI : wl_I G.2.1 137) (α β γ : oT) (nS nO nH : Nat) (hz : oOK α nS nO nH) (ao : Nat) (f : Nat → Int64) (hao : ¬ oA G ao) (x : Int32) (y : Int32) : Met l yL_setBarrel wsL_setBarrel ({ frames := 9, cells := 1, slots := 6, locals := 147 } : Room) (va_Pc [.ref (G.2.1 0), .int x, .int y, .ref ao] (PL G (cw G (z3 α β γ)) ao f)) (oQ (some (.int (nI (cBar nO x y)))) (fun H9 => va_P G.1 vwCl (cw G (if cBar nO x y = 0 then z3 (oPutB α (oN x) (oN y)) β γ else z3 α β γ)) H9 ∧ va_P G.1 vwCl (lw1 G ao (if cBar nO x y = 0 then vp_updL f 0 (α 15 (oN x) 0).toInt64 else f)) H9) (oL G ao)) 1 6 (oL G ao) := by
  refine ol_body (cc := cL_setBarrel) (by decide +kernel) rfl (Nat.le_of_ble_eq_true rfl) ?_
  intro p e s m below meth c ls hx hb hml hr hlocks htab hown hts hP hO hK hN hE hC hl
  have hown : s.vm.findClass RL = some m.cls := hown
  have hl : lv_has ls 5 [(0, .ref (G.2.1 0)), (1, .int x), (2, .int y), (3, .ref ao)] := hl
  obtain ⟨hz1, hz2, hz3, hz4, hz5, hz6, hz7⟩ := id hz
  refine lv_aload_n hx hb dL_setBarrel_0 rfl (lv_at hl 3 rfl) ?_
  refine lv_iconst (v := 0) hx hb dL_setBarrel_1 (by decide) ?_
  refine lv_aload_n hx hb dL_setBarrel_2 rfl (lv_at hl 0 rfl) ?_
  refine lv_iload_n hx hb dL_setBarrel_3 rfl (lv_at hl 1 rfl) ?_
  refine lv_iload_n hx hb dL_setBarrel_4 rfl (lv_at hl 2 rfl) ?_
  by_cases h1 : oIn x nO = true
  · by_cases h2 : oBar y = true
    · have hc9 : cBar nO x y = 0 := by simp [cBar, h1, h2]
      refine ol_cV (A0 := oL G ao) (q0 := 0) (ci := 6) [.int x, .int y] [.int 0, .ref ao] ⟨hx, hb, hml, hown, hts⟩ (m_X4_setBarrel l G hI α β γ nS nO nH hz x y (h1) (h2)) (cwV 2 hts gL_setBarrel_X4_setBarrel rfl rfl rfl (by decide +kernel) ⟨Nat.le_of_ble_eq_true rfl, Nat.le_of_ble_eq_true rfl⟩) hK hN hP va_S.rf (fun _ h => Or.inl h) rfl rfl (cx_C G _) rfl hl.1 rfl (Nat.le_of_ble_eq_true rfl) dL_setBarrel_5 ⟨Nat.zero_le _, Nat.zero_le _⟩ (fun H locs hP hk hS => ?_)
      have hO := ol_keep hO hao hk
      refine lv_i2l (v := (α 15 (oN x) 0).toInt64) hx hb dL_setBarrel_8 rfl ?_
      refine ol_last hx hb hK hP hO hI hao hS dL_setBarrel_9 (fun H locs hP hO hS => ?_)
      refine lv_goto (tgt := 21) hx hb dL_setBarrel_10 (by decide) ?_
      refine lv_iconst (v := 0) hx hb dL_setBarrel_21 (by decide) ?_
      exact ol_ret hx hb hr hlocks hS dL_setBarrel_22 (by decide) (by decide) ⟨by rw [hc9]; exact hP, by rw [hc9]; exact hO⟩ (by rw [hc9]; rfl)
    · have h2 := Bool.eq_false_iff.mpr h2
      have hc9 : cBar nO x y = 2 := by simp [cBar, h1, h2]
      refine ol_cx (q0 := 0) (ci := 6) [.int x, .int y] [.int 0, .ref ao] ⟨hx, hb, hml, hown, hts⟩ (mx_X4_setBarrel_b l hst G α β γ nS nO nH hz x y (h1) (h2)) (cwV 2 hts gL_setBarrel_X4_setBarrel rfl rfl rfl (by decide +kernel) ⟨Nat.le_of_ble_eq_true rfl, Nat.le_of_ble_eq_true rfl⟩) hK hN hP hE rfl rfl (cx_C G _) rfl hl.1 rfl (Nat.le_of_ble_eq_true rfl) dL_setBarrel_5 ⟨Nat.le_of_ble_eq_true rfl, Nat.le_of_ble_eq_true rfl⟩ [⟨0, 10, 13, 21⟩] ⟨0, 10, 17, 13⟩ [] (htab.trans rfl) (fun z9 h9 => by cases List.mem_singleton.mp h9; exact Or.inr ⟨by decide, "java/lang/IndexOutOfBoundsException", (hts (.classLink RL 21 "java/lang/IndexOutOfBoundsException") (List.mem_of_getElem? (i := 1) rfl)), hC (oXA, oXI) (List.mem_of_getElem? (i := 2) rfl)⟩) (by decide) (by decide) (hts (.classLink RL 13 "java/lang/IllegalArgumentException") (List.mem_of_getElem? (i := 2) rfl)) (hE.use _ (List.mem_of_getElem? (i := 1) rfl)) (fun q9 H hsz hkp => ?_)
      have hS : va_S (oL G ao) s.heap H [] := ⟨hsz, fun q hq _ => hkp q hq, fun z hz => nomatch hz⟩
      have hP := hP.kept (fun k q hk => hkp _ (vx_lt hP hk))
      have hO := hO.kept (fun k q hk => hkp _ (vx_lt hO hk))
      refine lv_astore (lv' := [(4, .ref q9), (0, .ref (G.2.1 0)), (1, .int x), (2, .int y), (3, .ref ao)]) hx hb dL_setBarrel_17 hl (by decide) rfl (fun ls hl => ?_)
      refine lv_iconst (v := 2) hx hb dL_setBarrel_19 (by decide) ?_
      exact ol_ret hx hb hr hlocks hS dL_setBarrel_20 (by decide) (by decide) ⟨by rw [hc9]; exact hP, by rw [hc9]; exact hO⟩ (by rw [hc9]; rfl)
  · have h1 := Bool.eq_false_iff.mpr h1
    have hc9 : cBar nO x y = 1 := by simp [cBar, h1]
    refine ol_cx (q0 := 0) (ci := 6) [.int x, .int y] [.int 0, .ref ao] ⟨hx, hb, hml, hown, hts⟩ (mx_X4_setBarrel_o l hst G α β γ nS nO nH hz x y (h1)) (cwV 2 hts gL_setBarrel_X4_setBarrel rfl rfl rfl (by decide +kernel) ⟨Nat.le_of_ble_eq_true rfl, Nat.le_of_ble_eq_true rfl⟩) hK hN hP hE rfl rfl (cx_C G _) rfl hl.1 rfl (Nat.le_of_ble_eq_true rfl) dL_setBarrel_5 ⟨Nat.le_of_ble_eq_true rfl, Nat.le_of_ble_eq_true rfl⟩ [] ⟨0, 10, 13, 21⟩ [⟨0, 10, 17, 13⟩] (htab.trans rfl) (fun z9 h9 => nomatch h9) (by decide) (by decide) (hts (.classLink RL 21 "java/lang/IndexOutOfBoundsException") (List.mem_of_getElem? (i := 1) rfl)) (hE.use _ (List.mem_of_getElem? (i := 0) rfl)) (fun q9 H hsz hkp => ?_)
    have hS : va_S (oL G ao) s.heap H [] := ⟨hsz, fun q hq _ => hkp q hq, fun z hz => nomatch hz⟩
    have hP := hP.kept (fun k q hk => hkp _ (vx_lt hP hk))
    have hO := hO.kept (fun k q hk => hkp _ (vx_lt hO hk))
    refine lv_astore (lv' := [(4, .ref q9), (0, .ref (G.2.1 0)), (1, .int x), (2, .int y), (3, .ref ao)]) hx hb dL_setBarrel_13 hl (by decide) rfl (fun ls hl => ?_)
    refine lv_iconst (v := 1) hx hb dL_setBarrel_15 (by decide) ?_
    exact ol_ret hx hb hr hlocks hS dL_setBarrel_16 (by decide) (by decide) ⟨by rw [hc9]; exact hP, by rw [hc9]; exact hO⟩ (by rw [hc9]; rfl)
set_option maxHeartbeats 4000000 in
set_option maxRecDepth 100000 in
theorem mL_send (l : Launch) (hst : l.stackTraces = false) (G : oG) (hI : wl_I G.2.1 137) (α β γ : oT) (nS nO nH : Nat) (hz : oOK α nS nO nH) (ao : Nat) (f : Nat → Int64) (hao : ¬ oA G ao) (x : Int32) (y : Int32) (z : Int32) : Met l yL_send wsL_send ({ frames := 10, cells := 1, slots := 6, locals := 171 } : Room) (va_Pc [.ref (G.2.1 0), .int x, .int y, .int z, .ref ao] (PL G (cw G (z3 α β γ)) ao f)) (oQ (some (.int (nI (cSend nS nO (oNp α) (α 9 (oN x) (oN y)) x y z)))) (fun H9 => va_P G.1 vwCl (cw G (if cSend nS nO (oNp α) (α 9 (oN x) (oN y)) x y z = 0 then z3 (oMove α (oN x) y z (oTo α (oN x) y z)) β γ else z3 α β γ)) H9 ∧ va_P G.1 vwCl (lw1 G ao (if cSend nS nO (oNp α) (α 9 (oN x) (oN y)) x y z = 0 then vp_updL f 0 (oTo α (oN x) y z).toInt64 else f)) H9) (oL G ao)) 1 6 (oL G ao) := by
  refine ol_body (cc := cL_send) (by decide +kernel) rfl (Nat.le_of_ble_eq_true rfl) ?_
  intro p e s m below meth c ls hx hb hml hr hlocks htab hown hts hP hO hK hN hE hC hl
  have hown : s.vm.findClass RL = some m.cls := hown
  have hl : lv_has ls 6 [(0, .ref (G.2.1 0)), (1, .int x), (2, .int y), (3, .int z), (4, .ref ao)] := hl
  obtain ⟨hz1, hz2, hz3, hz4, hz5, hz6, hz7⟩ := id hz
  refine lv_aload hx hb dL_send_0 (lv_at hl 4 rfl) ?_
  refine lv_iconst (v := 0) hx hb dL_send_2 (by decide) ?_
  refine lv_aload_n hx hb dL_send_3 rfl (lv_at hl 0 rfl) ?_
  refine lv_iload_n hx hb dL_send_4 rfl (lv_at hl 1 rfl) ?_
  refine lv_iload_n hx hb dL_send_5 rfl (lv_at hl 2 rfl) ?_
  refine lv_iload_n hx hb dL_send_6 rfl (lv_at hl 3 rfl) ?_
  by_cases h1 : oIn x nO = true
  · by_cases h2 : oIn y nS = true
    · by_cases h3 : oIn z (oNp α (oN y)) = true
      · by_cases h4 : α 9 (oN x) (oN y) ≤ 0
        · have hc9 : cSend nS nO (oNp α) (α 9 (oN x) (oN y)) x y z = 0 := by simp [cSend, h1, h2, h3, h4]
          refine ol_cV (A0 := oL G ao) (q0 := 0) (ci := 6) [.int x, .int y, .int z] [.int 0, .ref ao] ⟨hx, hb, hml, hown, hts⟩ (m_X4_send l G hI α β γ nS nO nH hz x y z (h1) (h2) (h3) (h4)) (cwV 3 hts gL_send_X4_send rfl rfl rfl (by decide +kernel) ⟨Nat.le_of_ble_eq_true rfl, Nat.le_of_ble_eq_true rfl⟩) hK hN hP va_S.rf (fun _ h => Or.inl h) rfl rfl (cx_C G _) rfl hl.1 rfl (Nat.le_of_ble_eq_true rfl) dL_send_7 ⟨Nat.zero_le _, Nat.zero_le _⟩ (fun H locs hP hk hS => ?_)
          have hO := ol_keep hO hao hk
          refine lv_i2l (v := (oTo α (oN x) y z).toInt64) hx hb dL_send_10 rfl ?_
          refine ol_last hx hb hK hP hO hI hao hS dL_send_11 (fun H locs hP hO hS => ?_)
          refine lv_goto (tgt := 23) hx hb dL_send_12 (by decide) ?_
          refine lv_iconst (v := 0) hx hb dL_send_23 (by decide) ?_
          exact ol_ret hx hb hr hlocks hS dL_send_24 (by decide) (by decide) ⟨by rw [hc9]; exact hP, by rw [hc9]; exact hO⟩ (by rw [hc9]; rfl)
        · have hc9 : cSend nS nO (oNp α) (α 9 (oN x) (oN y)) x y z = 2 := by simp [cSend, h1, h2, h3, h4]
          refine ol_cx (q0 := 0) (ci := 6) [.int x, .int y, .int z] [.int 0, .ref ao] ⟨hx, hb, hml, hown, hts⟩ (mx_X4_send_n l hst G α β γ nS nO nH hz x y z (h1) (h2) (h3) (h4)) (cwV 3 hts gL_send_X4_send rfl rfl rfl (by decide +kernel) ⟨Nat.le_of_ble_eq_true rfl, Nat.le_of_ble_eq_true rfl⟩) hK hN hP hE rfl rfl (cx_C G _) rfl hl.1 rfl (Nat.le_of_ble_eq_true rfl) dL_send_7 ⟨Nat.le_of_ble_eq_true rfl, Nat.le_of_ble_eq_true rfl⟩ [⟨0, 12, 15, 21⟩] ⟨0, 12, 19, 15⟩ [] (htab.trans rfl) (fun z9 h9 => by cases List.mem_singleton.mp h9; exact Or.inr ⟨by decide, "java/lang/IndexOutOfBoundsException", (hts (.classLink RL 21 "java/lang/IndexOutOfBoundsException") (List.mem_of_getElem? (i := 1) rfl)), hC (oXS, oXI) (List.mem_of_getElem? (i := 4) rfl)⟩) (by decide) (by decide) (hts (.classLink RL 15 "java/lang/IllegalStateException") (List.mem_of_getElem? (i := 2) rfl)) (hE.use _ (List.mem_of_getElem? (i := 2) rfl)) (fun q9 H hsz hkp => ?_)
          have hS : va_S (oL G ao) s.heap H [] := ⟨hsz, fun q hq _ => hkp q hq, fun z hz => nomatch hz⟩
          have hP := hP.kept (fun k q hk => hkp _ (vx_lt hP hk))
          have hO := hO.kept (fun k q hk => hkp _ (vx_lt hO hk))
          refine lv_astore (lv' := [(5, .ref q9), (0, .ref (G.2.1 0)), (1, .int x), (2, .int y), (3, .int z), (4, .ref ao)]) hx hb dL_send_19 hl (by decide) rfl (fun ls hl => ?_)
          refine lv_iconst (v := 2) hx hb dL_send_21 (by decide) ?_
          exact ol_ret hx hb hr hlocks hS dL_send_22 (by decide) (by decide) ⟨by rw [hc9]; exact hP, by rw [hc9]; exact hO⟩ (by rw [hc9]; rfl)
      · have h3 := Bool.eq_false_iff.mpr h3
        have hc9 : cSend nS nO (oNp α) (α 9 (oN x) (oN y)) x y z = 1 := by simp [cSend, h1, h2, h3]
        refine ol_cx (q0 := 0) (ci := 6) [.int x, .int y, .int z] [.int 0, .ref ao] ⟨hx, hb, hml, hown, hts⟩ (mx_X4_send_b l hst G α β γ nS nO nH hz x y z (h1) (h2) (h3)) (cwV 3 hts gL_send_X4_send rfl rfl rfl (by decide +kernel) ⟨Nat.le_of_ble_eq_true rfl, Nat.le_of_ble_eq_true rfl⟩) hK hN hP hE rfl rfl (cx_C G _) rfl hl.1 rfl (Nat.le_of_ble_eq_true rfl) dL_send_7 ⟨Nat.le_of_ble_eq_true rfl, Nat.le_of_ble_eq_true rfl⟩ [] ⟨0, 12, 15, 21⟩ [⟨0, 12, 19, 15⟩] (htab.trans rfl) (fun z9 h9 => nomatch h9) (by decide) (by decide) (hts (.classLink RL 21 "java/lang/IndexOutOfBoundsException") (List.mem_of_getElem? (i := 1) rfl)) (hE.use _ (List.mem_of_getElem? (i := 0) rfl)) (fun q9 H hsz hkp => ?_)
        have hS : va_S (oL G ao) s.heap H [] := ⟨hsz, fun q hq _ => hkp q hq, fun z hz => nomatch hz⟩
        have hP := hP.kept (fun k q hk => hkp _ (vx_lt hP hk))
        have hO := hO.kept (fun k q hk => hkp _ (vx_lt hO hk))
        refine lv_astore (lv' := [(5, .ref q9), (0, .ref (G.2.1 0)), (1, .int x), (2, .int y), (3, .int z), (4, .ref ao)]) hx hb dL_send_15 hl (by decide) rfl (fun ls hl => ?_)
        refine lv_iconst (v := 1) hx hb dL_send_17 (by decide) ?_
        exact ol_ret hx hb hr hlocks hS dL_send_18 (by decide) (by decide) ⟨by rw [hc9]; exact hP, by rw [hc9]; exact hO⟩ (by rw [hc9]; rfl)
    · have h2 := Bool.eq_false_iff.mpr h2
      have hc9 : cSend nS nO (oNp α) (α 9 (oN x) (oN y)) x y z = 1 := by simp [cSend, h1, h2]
      refine ol_cx (q0 := 0) (ci := 6) [.int x, .int y, .int z] [.int 0, .ref ao] ⟨hx, hb, hml, hown, hts⟩ (mx_X4_send_a l hst G α β γ nS nO nH hz x y z (h1) (h2)) (cwV 3 hts gL_send_X4_send rfl rfl rfl (by decide +kernel) ⟨Nat.le_of_ble_eq_true rfl, Nat.le_of_ble_eq_true rfl⟩) hK hN hP hE rfl rfl (cx_C G _) rfl hl.1 rfl (Nat.le_of_ble_eq_true rfl) dL_send_7 ⟨Nat.le_of_ble_eq_true rfl, Nat.le_of_ble_eq_true rfl⟩ [] ⟨0, 12, 15, 21⟩ [⟨0, 12, 19, 15⟩] (htab.trans rfl) (fun z9 h9 => nomatch h9) (by decide) (by decide) (hts (.classLink RL 21 "java/lang/IndexOutOfBoundsException") (List.mem_of_getElem? (i := 1) rfl)) (hE.use _ (List.mem_of_getElem? (i := 0) rfl)) (fun q9 H hsz hkp => ?_)
      have hS : va_S (oL G ao) s.heap H [] := ⟨hsz, fun q hq _ => hkp q hq, fun z hz => nomatch hz⟩
      have hP := hP.kept (fun k q hk => hkp _ (vx_lt hP hk))
      have hO := hO.kept (fun k q hk => hkp _ (vx_lt hO hk))
      refine lv_astore (lv' := [(5, .ref q9), (0, .ref (G.2.1 0)), (1, .int x), (2, .int y), (3, .int z), (4, .ref ao)]) hx hb dL_send_15 hl (by decide) rfl (fun ls hl => ?_)
      refine lv_iconst (v := 1) hx hb dL_send_17 (by decide) ?_
      exact ol_ret hx hb hr hlocks hS dL_send_18 (by decide) (by decide) ⟨by rw [hc9]; exact hP, by rw [hc9]; exact hO⟩ (by rw [hc9]; rfl)
  · have h1 := Bool.eq_false_iff.mpr h1
    have hc9 : cSend nS nO (oNp α) (α 9 (oN x) (oN y)) x y z = 1 := by simp [cSend, h1]
    refine ol_cx (q0 := 0) (ci := 6) [.int x, .int y, .int z] [.int 0, .ref ao] ⟨hx, hb, hml, hown, hts⟩ (mx_X4_send_o l hst G α β γ nS nO nH hz x y z (h1)) (cwV 3 hts gL_send_X4_send rfl rfl rfl (by decide +kernel) ⟨Nat.le_of_ble_eq_true rfl, Nat.le_of_ble_eq_true rfl⟩) hK hN hP hE rfl rfl (cx_C G _) rfl hl.1 rfl (Nat.le_of_ble_eq_true rfl) dL_send_7 ⟨Nat.le_of_ble_eq_true rfl, Nat.le_of_ble_eq_true rfl⟩ [] ⟨0, 12, 15, 21⟩ [⟨0, 12, 19, 15⟩] (htab.trans rfl) (fun z9 h9 => nomatch h9) (by decide) (by decide) (hts (.classLink RL 21 "java/lang/IndexOutOfBoundsException") (List.mem_of_getElem? (i := 1) rfl)) (hE.use _ (List.mem_of_getElem? (i := 0) rfl)) (fun q9 H hsz hkp => ?_)
    have hS : va_S (oL G ao) s.heap H [] := ⟨hsz, fun q hq _ => hkp q hq, fun z hz => nomatch hz⟩
    have hP := hP.kept (fun k q hk => hkp _ (vx_lt hP hk))
    have hO := hO.kept (fun k q hk => hkp _ (vx_lt hO hk))
    refine lv_astore (lv' := [(5, .ref q9), (0, .ref (G.2.1 0)), (1, .int x), (2, .int y), (3, .int z), (4, .ref ao)]) hx hb dL_send_15 hl (by decide) rfl (fun ls hl => ?_)
    refine lv_iconst (v := 1) hx hb dL_send_17 (by decide) ?_
    exact ol_ret hx hb hr hlocks hS dL_send_18 (by decide) (by decide) ⟨by rw [hc9]; exact hP, by rw [hc9]; exact hO⟩ (by rw [hc9]; rfl)
set_option maxHeartbeats 4000000 in
set_option maxRecDepth 100000 in
theorem mL_organ (l : Launch) (hst : l.stackTraces = false) (G : oG) (hI : wl_I G.2.1 137) (α β γ : oT) (nS nO nH : Nat) (hz : oOK α nS nO nH) (ao : Nat) (f : Nat → Int64) (hao : ¬ oA G ao) (x : Int32) (y : Int32) : Met l yL_organ wsL_organ ({ frames := 9, cells := 1, slots := 6, locals := 146 } : Room) (va_Pc [.ref (G.2.1 0), .int x, .int y, .ref ao] (PL G (cw G (z3 α β γ)) ao f)) (oQ (some (.int (nI (cOrgan nO x y)))) (fun H9 => va_P G.1 vwCl (cw G (z3 α β γ)) H9 ∧ va_P G.1 vwCl (lw1 G ao (if cOrgan nO x y = 0 then vp_updL f 0 (oFact α (oN x) (oN y)).toInt64 else f)) H9) (oL G ao)) 1 6 (oL G ao) := by
  refine ol_body (cc := cL_organ) (by decide +kernel) rfl (Nat.le_of_ble_eq_true rfl) ?_
  intro p e s m below meth c ls hx hb hml hr hlocks htab hown hts hP hO hK hN hE hC hl
  have hown : s.vm.findClass RL = some m.cls := hown
  have hl : lv_has ls 5 [(0, .ref (G.2.1 0)), (1, .int x), (2, .int y), (3, .ref ao)] := hl
  obtain ⟨hz1, hz2, hz3, hz4, hz5, hz6, hz7⟩ := id hz
  have e2 : oRg y 0 10 = oIn y 11 := by rw [show (10 : Int32) = nI 11 - 1 by decide]; exact oRg_p y (by decide)
  refine lv_aload_n hx hb dL_organ_0 rfl (lv_at hl 3 rfl) ?_
  refine lv_iconst (v := 0) hx hb dL_organ_1 (by decide) ?_
  refine lv_aload_n hx hb dL_organ_2 rfl (lv_at hl 0 rfl) ?_
  refine lv_iload_n hx hb dL_organ_3 rfl (lv_at hl 1 rfl) ?_
  refine lv_iload_n hx hb dL_organ_4 rfl (lv_at hl 2 rfl) ?_
  by_cases h1 : oIn x nO = true
  · by_cases h2 : oIn y 11 = true
    · have hc9 : cOrgan nO x y = 0 := by simp [cOrgan, h1, h2, e2]
      refine o_cVi (q0 := 0) (ci := 6) [.int x, .int y] [.int 0, .ref ao] ⟨hx, hb, hml, hown, hts⟩ (m_X4_organ l G α β γ nS nO nH hz x y (h1) (h2)) (cwV 2 hts gL_organ_X4_organ rfl rfl rfl (by decide +kernel) ⟨Nat.le_of_ble_eq_true rfl, Nat.le_of_ble_eq_true rfl⟩) hK hN hP rfl rfl (cx_C G _) rfl hl.1 rfl (Nat.le_of_ble_eq_true rfl) dL_organ_5 ⟨Nat.zero_le _, Nat.zero_le _⟩ ?_
      have hS : va_S (oL G ao) s.heap s.heap [] := va_S.rf
      refine lv_i2l (v := (oFact α (oN x) (oN y)).toInt64) hx hb dL_organ_8 rfl ?_
      refine ol_last hx hb hK hP hO hI hao hS dL_organ_9 (fun H locs hP hO hS => ?_)
      refine lv_goto (tgt := 17) hx hb dL_organ_10 (by decide) ?_
      refine lv_iconst (v := 0) hx hb dL_organ_17 (by decide) ?_
      exact ol_ret hx hb hr hlocks hS dL_organ_18 (by decide) (by decide) ⟨by exact hP, by rw [hc9]; exact hO⟩ (by rw [hc9]; rfl)
    · have h2 := Bool.eq_false_iff.mpr h2
      have hc9 : cOrgan nO x y = 1 := by simp [cOrgan, h1, h2, e2]
      refine ol_cx (q0 := 0) (ci := 6) [.int x, .int y] [.int 0, .ref ao] ⟨hx, hb, hml, hown, hts⟩ (mx_X4_organ_w l hst G α β γ nS nO nH hz x y (h1) (h2)) (cwV 2 hts gL_organ_X4_organ rfl rfl rfl (by decide +kernel) ⟨Nat.le_of_ble_eq_true rfl, Nat.le_of_ble_eq_true rfl⟩) hK hN hP hE rfl rfl (cx_C G _) rfl hl.1 rfl (Nat.le_of_ble_eq_true rfl) dL_organ_5 ⟨Nat.le_of_ble_eq_true rfl, Nat.le_of_ble_eq_true rfl⟩ [] ⟨0, 10, 13, 21⟩ [] (htab.trans rfl) (fun z9 h9 => nomatch h9) (by decide) (by decide) (hts (.classLink RL 21 "java/lang/IndexOutOfBoundsException") (List.mem_of_getElem? (i := 1) rfl)) (hE.use _ (List.mem_of_getElem? (i := 0) rfl)) (fun q9 H hsz hkp => ?_)
      have hS : va_S (oL G ao) s.heap H [] := ⟨hsz, fun q hq _ => hkp q hq, fun z hz => nomatch hz⟩
      have hP := hP.kept (fun k q hk => hkp _ (vx_lt hP hk))
      have hO := hO.kept (fun k q hk => hkp _ (vx_lt hO hk))
      refine lv_astore (lv' := [(4, .ref q9), (0, .ref (G.2.1 0)), (1, .int x), (2, .int y), (3, .ref ao)]) hx hb dL_organ_13 hl (by decide) rfl (fun ls hl => ?_)
      refine lv_iconst (v := 1) hx hb dL_organ_15 (by decide) ?_
      exact ol_ret hx hb hr hlocks hS dL_organ_16 (by decide) (by decide) ⟨by exact hP, by rw [hc9]; exact hO⟩ (by rw [hc9]; rfl)
  · have h1 := Bool.eq_false_iff.mpr h1
    have hc9 : cOrgan nO x y = 1 := by simp [cOrgan, h1, e2]
    refine ol_cx (q0 := 0) (ci := 6) [.int x, .int y] [.int 0, .ref ao] ⟨hx, hb, hml, hown, hts⟩ (mx_X4_organ_o l hst G α β γ nS nO nH hz x y (h1)) (cwV 2 hts gL_organ_X4_organ rfl rfl rfl (by decide +kernel) ⟨Nat.le_of_ble_eq_true rfl, Nat.le_of_ble_eq_true rfl⟩) hK hN hP hE rfl rfl (cx_C G _) rfl hl.1 rfl (Nat.le_of_ble_eq_true rfl) dL_organ_5 ⟨Nat.le_of_ble_eq_true rfl, Nat.le_of_ble_eq_true rfl⟩ [] ⟨0, 10, 13, 21⟩ [] (htab.trans rfl) (fun z9 h9 => nomatch h9) (by decide) (by decide) (hts (.classLink RL 21 "java/lang/IndexOutOfBoundsException") (List.mem_of_getElem? (i := 1) rfl)) (hE.use _ (List.mem_of_getElem? (i := 0) rfl)) (fun q9 H hsz hkp => ?_)
    have hS : va_S (oL G ao) s.heap H [] := ⟨hsz, fun q hq _ => hkp q hq, fun z hz => nomatch hz⟩
    have hP := hP.kept (fun k q hk => hkp _ (vx_lt hP hk))
    have hO := hO.kept (fun k q hk => hkp _ (vx_lt hO hk))
    refine lv_astore (lv' := [(4, .ref q9), (0, .ref (G.2.1 0)), (1, .int x), (2, .int y), (3, .ref ao)]) hx hb dL_organ_13 hl (by decide) rfl (fun ls hl => ?_)
    refine lv_iconst (v := 1) hx hb dL_organ_15 (by decide) ?_
    exact ol_ret hx hb hr hlocks hS dL_organ_16 (by decide) (by decide) ⟨by exact hP, by rw [hc9]; exact hO⟩ (by rw [hc9]; rfl)
set_option maxHeartbeats 4000000 in
set_option maxRecDepth 100000 in
theorem mL_banished (l : Launch) (hst : l.stackTraces = false) (G : oG) (hI : wl_I G.2.1 137) (α β γ : oT) (nS nO nH : Nat) (hz : oOK α nS nO nH) (ao : Nat) (f : Nat → Int64) (hao : ¬ oA G ao) (x : Int32) (y : Int32) : Met l yL_banished wsL_banished ({ frames := 9, cells := 1, slots := 6, locals := 146 } : Room) (va_Pc [.ref (G.2.1 0), .int x, .int y, .ref ao] (PL G (cw G (z3 α β γ)) ao f)) (oQ (some (.int (nI (cBan nS nO x y)))) (fun H9 => va_P G.1 vwCl (cw G (z3 α β γ)) H9 ∧ va_P G.1 vwCl (lw1 G ao (if cBan nS nO x y = 0 then vp_updL f 0 (α 9 (oN x) (oN y)).toInt64 else f)) H9) (oL G ao)) 1 6 (oL G ao) := by
  refine ol_body (cc := cL_banished) (by decide +kernel) rfl (Nat.le_of_ble_eq_true rfl) ?_
  intro p e s m below meth c ls hx hb hml hr hlocks htab hown hts hP hO hK hN hE hC hl
  have hown : s.vm.findClass RL = some m.cls := hown
  have hl : lv_has ls 5 [(0, .ref (G.2.1 0)), (1, .int x), (2, .int y), (3, .ref ao)] := hl
  obtain ⟨hz1, hz2, hz3, hz4, hz5, hz6, hz7⟩ := id hz
  refine lv_aload_n hx hb dL_banished_0 rfl (lv_at hl 3 rfl) ?_
  refine lv_iconst (v := 0) hx hb dL_banished_1 (by decide) ?_
  refine lv_aload_n hx hb dL_banished_2 rfl (lv_at hl 0 rfl) ?_
  refine lv_iload_n hx hb dL_banished_3 rfl (lv_at hl 1 rfl) ?_
  refine lv_iload_n hx hb dL_banished_4 rfl (lv_at hl 2 rfl) ?_
  by_cases h1 : oIn x nO = true
  · by_cases h2 : oIn y nS = true
    · have hc9 : cBan nS nO x y = 0 := by simp [cBan, h1, h2]
      refine o_cVi (q0 := 0) (ci := 6) [.int x, .int y] [.int 0, .ref ao] ⟨hx, hb, hml, hown, hts⟩ (m_X4_banished l G α β γ nS nO nH hz x y (h1) (h2)) (cwV 2 hts gL_banished_X4_banished rfl rfl rfl (by decide +kernel) ⟨Nat.le_of_ble_eq_true rfl, Nat.le_of_ble_eq_true rfl⟩) hK hN hP rfl rfl (cx_C G _) rfl hl.1 rfl (Nat.le_of_ble_eq_true rfl) dL_banished_5 ⟨Nat.zero_le _, Nat.zero_le _⟩ ?_
      have hS : va_S (oL G ao) s.heap s.heap [] := va_S.rf
      refine lv_i2l (v := (α 9 (oN x) (oN y)).toInt64) hx hb dL_banished_8 rfl ?_
      refine ol_last hx hb hK hP hO hI hao hS dL_banished_9 (fun H locs hP hO hS => ?_)
      refine lv_goto (tgt := 17) hx hb dL_banished_10 (by decide) ?_
      refine lv_iconst (v := 0) hx hb dL_banished_17 (by decide) ?_
      exact ol_ret hx hb hr hlocks hS dL_banished_18 (by decide) (by decide) ⟨by exact hP, by rw [hc9]; exact hO⟩ (by rw [hc9]; rfl)
    · have h2 := Bool.eq_false_iff.mpr h2
      have hc9 : cBan nS nO x y = 1 := by simp [cBan, h1, h2]
      refine ol_cx (q0 := 0) (ci := 6) [.int x, .int y] [.int 0, .ref ao] ⟨hx, hb, hml, hown, hts⟩ (mx_X4_banished_s l hst G α β γ nS nO nH hz x y (h1) (h2)) (cwV 2 hts gL_banished_X4_banished rfl rfl rfl (by decide +kernel) ⟨Nat.le_of_ble_eq_true rfl, Nat.le_of_ble_eq_true rfl⟩) hK hN hP hE rfl rfl (cx_C G _) rfl hl.1 rfl (Nat.le_of_ble_eq_true rfl) dL_banished_5 ⟨Nat.le_of_ble_eq_true rfl, Nat.le_of_ble_eq_true rfl⟩ [] ⟨0, 10, 13, 21⟩ [] (htab.trans rfl) (fun z9 h9 => nomatch h9) (by decide) (by decide) (hts (.classLink RL 21 "java/lang/IndexOutOfBoundsException") (List.mem_of_getElem? (i := 1) rfl)) (hE.use _ (List.mem_of_getElem? (i := 0) rfl)) (fun q9 H hsz hkp => ?_)
      have hS : va_S (oL G ao) s.heap H [] := ⟨hsz, fun q hq _ => hkp q hq, fun z hz => nomatch hz⟩
      have hP := hP.kept (fun k q hk => hkp _ (vx_lt hP hk))
      have hO := hO.kept (fun k q hk => hkp _ (vx_lt hO hk))
      refine lv_astore (lv' := [(4, .ref q9), (0, .ref (G.2.1 0)), (1, .int x), (2, .int y), (3, .ref ao)]) hx hb dL_banished_13 hl (by decide) rfl (fun ls hl => ?_)
      refine lv_iconst (v := 1) hx hb dL_banished_15 (by decide) ?_
      exact ol_ret hx hb hr hlocks hS dL_banished_16 (by decide) (by decide) ⟨by exact hP, by rw [hc9]; exact hO⟩ (by rw [hc9]; rfl)
  · have h1 := Bool.eq_false_iff.mpr h1
    have hc9 : cBan nS nO x y = 1 := by simp [cBan, h1]
    refine ol_cx (q0 := 0) (ci := 6) [.int x, .int y] [.int 0, .ref ao] ⟨hx, hb, hml, hown, hts⟩ (mx_X4_banished_o l hst G α β γ nS nO nH hz x y (h1)) (cwV 2 hts gL_banished_X4_banished rfl rfl rfl (by decide +kernel) ⟨Nat.le_of_ble_eq_true rfl, Nat.le_of_ble_eq_true rfl⟩) hK hN hP hE rfl rfl (cx_C G _) rfl hl.1 rfl (Nat.le_of_ble_eq_true rfl) dL_banished_5 ⟨Nat.le_of_ble_eq_true rfl, Nat.le_of_ble_eq_true rfl⟩ [] ⟨0, 10, 13, 21⟩ [] (htab.trans rfl) (fun z9 h9 => nomatch h9) (by decide) (by decide) (hts (.classLink RL 21 "java/lang/IndexOutOfBoundsException") (List.mem_of_getElem? (i := 1) rfl)) (hE.use _ (List.mem_of_getElem? (i := 0) rfl)) (fun q9 H hsz hkp => ?_)
    have hS : va_S (oL G ao) s.heap H [] := ⟨hsz, fun q hq _ => hkp q hq, fun z hz => nomatch hz⟩
    have hP := hP.kept (fun k q hk => hkp _ (vx_lt hP hk))
    have hO := hO.kept (fun k q hk => hkp _ (vx_lt hO hk))
    refine lv_astore (lv' := [(4, .ref q9), (0, .ref (G.2.1 0)), (1, .int x), (2, .int y), (3, .ref ao)]) hx hb dL_banished_13 hl (by decide) rfl (fun ls hl => ?_)
    refine lv_iconst (v := 1) hx hb dL_banished_15 (by decide) ?_
    exact ol_ret hx hb hr hlocks hS dL_banished_16 (by decide) (by decide) ⟨by exact hP, by rw [hc9]; exact hO⟩ (by rw [hc9]; rfl)
set_option maxHeartbeats 4000000 in
set_option maxRecDepth 100000 in
theorem mL_heard (l : Launch) (hst : l.stackTraces = false) (G : oG) (hI : wl_I G.2.1 137) (α β γ : oT) (nS nO nH : Nat) (hz : oOK α nS nO nH) (ao : Nat) (f : Nat → Int64) (hao : ¬ oA G ao) (x : Int32) (y : Int32) : Met l yL_heard wsL_heard ({ frames := 10, cells := 1, slots := 6, locals := 168 } : Room) (va_Pc [.ref (G.2.1 0), .int x, .int y, .ref ao] (PL G (cw G (z3 α β γ)) ao f)) (oQ (some (.int (nI (cHeard nS (oNp α) x y)))) (fun H9 => va_P G.1 vwCl (cw G (z3 α β γ)) H9 ∧ va_P G.1 vwCl (lw1 G ao (if cHeard nS (oNp α) x y = 0 then vp_updL f 0 (oHeard α nO x y).toInt64 else f)) H9) (oL G ao)) 1 6 (oL G ao) := by
  refine ol_body (cc := cL_heard) (by decide +kernel) rfl (Nat.le_of_ble_eq_true rfl) ?_
  intro p e s m below meth c ls hx hb hml hr hlocks htab hown hts hP hO hK hN hE hC hl
  have hown : s.vm.findClass RL = some m.cls := hown
  have hl : lv_has ls 5 [(0, .ref (G.2.1 0)), (1, .int x), (2, .int y), (3, .ref ao)] := hl
  obtain ⟨hz1, hz2, hz3, hz4, hz5, hz6, hz7⟩ := id hz
  refine lv_aload_n hx hb dL_heard_0 rfl (lv_at hl 3 rfl) ?_
  refine lv_iconst (v := 0) hx hb dL_heard_1 (by decide) ?_
  refine lv_aload_n hx hb dL_heard_2 rfl (lv_at hl 0 rfl) ?_
  refine lv_iload_n hx hb dL_heard_3 rfl (lv_at hl 1 rfl) ?_
  refine lv_iload_n hx hb dL_heard_4 rfl (lv_at hl 2 rfl) ?_
  by_cases h1 : oIn x nS = true
  · by_cases h2 : oIn y (oNp α (oN x)) = true
    · have hc9 : cHeard nS (oNp α) x y = 0 := by simp [cHeard, h1, h2]
      refine o_cVi (q0 := 0) (ci := 6) [.int x, .int y] [.int 0, .ref ao] ⟨hx, hb, hml, hown, hts⟩ (m_X4_heard l G α β γ nS nO nH hz x y (h1) (h2)) (cwV 2 hts gL_heard_X4_heard rfl rfl rfl (by decide +kernel) ⟨Nat.le_of_ble_eq_true rfl, Nat.le_of_ble_eq_true rfl⟩) hK hN hP rfl rfl (cx_C G _) rfl hl.1 rfl (Nat.le_of_ble_eq_true rfl) dL_heard_5 ⟨Nat.zero_le _, Nat.zero_le _⟩ ?_
      have hS : va_S (oL G ao) s.heap s.heap [] := va_S.rf
      refine lv_i2l (v := (oHeard α nO x y).toInt64) hx hb dL_heard_8 rfl ?_
      refine ol_last hx hb hK hP hO hI hao hS dL_heard_9 (fun H locs hP hO hS => ?_)
      refine lv_goto (tgt := 17) hx hb dL_heard_10 (by decide) ?_
      refine lv_iconst (v := 0) hx hb dL_heard_17 (by decide) ?_
      exact ol_ret hx hb hr hlocks hS dL_heard_18 (by decide) (by decide) ⟨by exact hP, by rw [hc9]; exact hO⟩ (by rw [hc9]; rfl)
    · have h2 := Bool.eq_false_iff.mpr h2
      have hc9 : cHeard nS (oNp α) x y = 1 := by simp [cHeard, h1, h2]
      refine ol_cx (q0 := 0) (ci := 6) [.int x, .int y] [.int 0, .ref ao] ⟨hx, hb, hml, hown, hts⟩ (mx_X4_heard_b l hst G α β γ nS nO nH hz x y (h1) (h2)) (cwV 2 hts gL_heard_X4_heard rfl rfl rfl (by decide +kernel) ⟨Nat.le_of_ble_eq_true rfl, Nat.le_of_ble_eq_true rfl⟩) hK hN hP hE rfl rfl (cx_C G _) rfl hl.1 rfl (Nat.le_of_ble_eq_true rfl) dL_heard_5 ⟨Nat.le_of_ble_eq_true rfl, Nat.le_of_ble_eq_true rfl⟩ [] ⟨0, 10, 13, 21⟩ [] (htab.trans rfl) (fun z9 h9 => nomatch h9) (by decide) (by decide) (hts (.classLink RL 21 "java/lang/IndexOutOfBoundsException") (List.mem_of_getElem? (i := 1) rfl)) (hE.use _ (List.mem_of_getElem? (i := 0) rfl)) (fun q9 H hsz hkp => ?_)
      have hS : va_S (oL G ao) s.heap H [] := ⟨hsz, fun q hq _ => hkp q hq, fun z hz => nomatch hz⟩
      have hP := hP.kept (fun k q hk => hkp _ (vx_lt hP hk))
      have hO := hO.kept (fun k q hk => hkp _ (vx_lt hO hk))
      refine lv_astore (lv' := [(4, .ref q9), (0, .ref (G.2.1 0)), (1, .int x), (2, .int y), (3, .ref ao)]) hx hb dL_heard_13 hl (by decide) rfl (fun ls hl => ?_)
      refine lv_iconst (v := 1) hx hb dL_heard_15 (by decide) ?_
      exact ol_ret hx hb hr hlocks hS dL_heard_16 (by decide) (by decide) ⟨by exact hP, by rw [hc9]; exact hO⟩ (by rw [hc9]; rfl)
  · have h1 := Bool.eq_false_iff.mpr h1
    have hc9 : cHeard nS (oNp α) x y = 1 := by simp [cHeard, h1]
    refine ol_cx (q0 := 0) (ci := 6) [.int x, .int y] [.int 0, .ref ao] ⟨hx, hb, hml, hown, hts⟩ (mx_X4_heard_a l hst G α β γ nS nO nH hz x y (h1)) (cwV 2 hts gL_heard_X4_heard rfl rfl rfl (by decide +kernel) ⟨Nat.le_of_ble_eq_true rfl, Nat.le_of_ble_eq_true rfl⟩) hK hN hP hE rfl rfl (cx_C G _) rfl hl.1 rfl (Nat.le_of_ble_eq_true rfl) dL_heard_5 ⟨Nat.le_of_ble_eq_true rfl, Nat.le_of_ble_eq_true rfl⟩ [] ⟨0, 10, 13, 21⟩ [] (htab.trans rfl) (fun z9 h9 => nomatch h9) (by decide) (by decide) (hts (.classLink RL 21 "java/lang/IndexOutOfBoundsException") (List.mem_of_getElem? (i := 1) rfl)) (hE.use _ (List.mem_of_getElem? (i := 0) rfl)) (fun q9 H hsz hkp => ?_)
    have hS : va_S (oL G ao) s.heap H [] := ⟨hsz, fun q hq _ => hkp q hq, fun z hz => nomatch hz⟩
    have hP := hP.kept (fun k q hk => hkp _ (vx_lt hP hk))
    have hO := hO.kept (fun k q hk => hkp _ (vx_lt hO hk))
    refine lv_astore (lv' := [(4, .ref q9), (0, .ref (G.2.1 0)), (1, .int x), (2, .int y), (3, .ref ao)]) hx hb dL_heard_13 hl (by decide) rfl (fun ls hl => ?_)
    refine lv_iconst (v := 1) hx hb dL_heard_15 (by decide) ?_
    exact ol_ret hx hb hr hlocks hS dL_heard_16 (by decide) (by decide) ⟨by exact hP, by rw [hc9]; exact hO⟩ (by rw [hc9]; rfl)
set_option maxHeartbeats 4000000 in
set_option maxRecDepth 100000 in
theorem mL_pass (l : Launch) (hst : l.stackTraces = false) (G : oG) (hI : wl_I G.2.1 137) (α β γ : oT) (nS nO nH : Nat) (hz : oOK α nS nO nH) (hb9 : nH + 100 < 1000000) (ao : Nat) (f : Nat → Int64) (hao : ¬ oA G ao) (x : Int32) : Met l yL_pass wsL_pass ({ frames := 8, cells := 1, slots := 6, locals := 140 } : Room) (va_Pc [.ref (G.2.1 0), .int x, .ref ao] (PL G (cw G (z3 α β γ)) ao f)) (oQ (some (.int (nI (cPass x)))) (fun H9 => va_P G.1 vwCl (cw G (if cPass x = 0 then z3 (oPn α nS nO nH (oN x)) β γ else z3 α β γ)) H9 ∧ va_P G.1 vwCl (lw1 G ao (if cPass x = 0 then vp_updL f 0 (oPs α nS nO nH (oN x)).toInt64 else f)) H9) (oL G ao)) 1 6 (oL G ao) := by
  refine ol_body (cc := cL_pass) (by decide +kernel) rfl (Nat.le_of_ble_eq_true rfl) ?_
  intro p e s m below meth c ls hx hb hml hr hlocks htab hown hts hP hO hK hN hE hC hl
  have hown : s.vm.findClass RL = some m.cls := hown
  have hl : lv_has ls 4 [(0, .ref (G.2.1 0)), (1, .int x), (2, .ref ao)] := hl
  obtain ⟨hz1, hz2, hz3, hz4, hz5, hz6, hz7⟩ := id hz
  refine lv_aload_n hx hb dL_pass_0 rfl (lv_at hl 2 rfl) ?_
  refine lv_iconst (v := 0) hx hb dL_pass_1 (by decide) ?_
  refine lv_aload_n hx hb dL_pass_2 rfl (lv_at hl 0 rfl) ?_
  refine lv_iload_n hx hb dL_pass_3 rfl (lv_at hl 1 rfl) ?_
  by_cases h1 : oRg x 1 100 = true
  · have hc9 : cPass x = 0 := by simp [cPass, h1]
    refine ol_cV (A0 := oL G ao) (q0 := 0) (ci := 6) [.int x] [.int 0, .ref ao] ⟨hx, hb, hml, hown, hts⟩ (m_X4_pass l G hI α β γ nS nO nH hz x (h1) (hb9)) (cwV 1 hts gL_pass_X4_pass rfl rfl rfl (by decide +kernel) ⟨Nat.le_of_ble_eq_true rfl, Nat.le_of_ble_eq_true rfl⟩) hK hN hP va_S.rf (fun _ h => Or.inl h) rfl rfl (cx_C G _) rfl hl.1 rfl (Nat.le_of_ble_eq_true rfl) dL_pass_4 ⟨Nat.zero_le _, Nat.zero_le _⟩ (fun H locs hP hk hS => ?_)
    have hO := ol_keep hO hao hk
    refine lv_i2l (v := (oPs α nS nO nH (oN x)).toInt64) hx hb dL_pass_7 rfl ?_
    refine ol_last hx hb hK hP hO hI hao hS dL_pass_8 (fun H locs hP hO hS => ?_)
    refine lv_goto (tgt := 15) hx hb dL_pass_9 (by decide) ?_
    refine lv_iconst (v := 0) hx hb dL_pass_15 (by decide) ?_
    exact ol_ret hx hb hr hlocks hS dL_pass_16 (by decide) (by decide) ⟨by rw [hc9]; exact hP, by rw [hc9]; exact hO⟩ (by rw [hc9]; rfl)
  · have h1 := Bool.eq_false_iff.mpr h1
    have hc9 : cPass x = 1 := by simp [cPass, h1]
    refine ol_cx (q0 := 0) (ci := 6) [.int x] [.int 0, .ref ao] ⟨hx, hb, hml, hown, hts⟩ (mx_X4_pass_r l hst G α β γ nS nO nH hz x (h1)) (cwV 1 hts gL_pass_X4_pass rfl rfl rfl (by decide +kernel) ⟨Nat.le_of_ble_eq_true rfl, Nat.le_of_ble_eq_true rfl⟩) hK hN hP hE rfl rfl (cx_C G _) rfl hl.1 rfl (Nat.le_of_ble_eq_true rfl) dL_pass_4 ⟨Nat.le_of_ble_eq_true rfl, Nat.le_of_ble_eq_true rfl⟩ [] ⟨0, 9, 12, 13⟩ [] (htab.trans rfl) (fun z9 h9 => nomatch h9) (by decide) (by decide) (hts (.classLink RL 13 "java/lang/IllegalArgumentException") (List.mem_of_getElem? (i := 1) rfl)) (hE.use _ (List.mem_of_getElem? (i := 1) rfl)) (fun q9 H hsz hkp => ?_)
    have hS : va_S (oL G ao) s.heap H [] := ⟨hsz, fun q hq _ => hkp q hq, fun z hz => nomatch hz⟩
    have hP := hP.kept (fun k q hk => hkp _ (vx_lt hP hk))
    have hO := hO.kept (fun k q hk => hkp _ (vx_lt hO hk))
    refine lv_astore_n (lv' := [(3, .ref q9), (0, .ref (G.2.1 0)), (1, .int x), (2, .ref ao)]) hx hb dL_pass_12 rfl hl (by decide) rfl (fun ls hl => ?_)
    refine lv_iconst (v := 1) hx hb dL_pass_13 (by decide) ?_
    exact ol_ret hx hb hr hlocks hS dL_pass_14 (by decide) (by decide) ⟨by rw [hc9]; exact hP, by rw [hc9]; exact hO⟩ (by rw [hc9]; rfl)
set_option maxHeartbeats 4000000 in
set_option maxRecDepth 100000 in
theorem mL_count (l : Launch) (hst : l.stackTraces = false) (G : oG) (hI : wl_I G.2.1 137) (α β γ : oT) (nS nO nH : Nat) (hz : oOK α nS nO nH) (ao : Nat) (f : Nat → Int64) (hao : ¬ oA G ao) (x : Int32) : Met l yL_count wsL_count ({ frames := 8, cells := 1, slots := 6, locals := 124 } : Room) (va_Pc [.ref (G.2.1 0), .int x, .ref ao] (PL G (cw G (z3 α β γ)) ao f)) (oQ (some (.int (nI (cCount x)))) (fun H9 => va_P G.1 vwCl (cw G (z3 α β γ)) H9 ∧ va_P G.1 vwCl (lw1 G ao (if cCount x = 0 then vp_updL f 0 (kCnt α γ nS nO (oN x)).toInt64 else f)) H9) (oL G ao)) 1 6 (oL G ao) := by
  refine ol_body (cc := cL_count) (by decide +kernel) rfl (Nat.le_of_ble_eq_true rfl) ?_
  intro p e s m below meth c ls hx hb hml hr hlocks htab hown hts hP hO hK hN hE hC hl
  have hown : s.vm.findClass RL = some m.cls := hown
  have hl : lv_has ls 4 [(0, .ref (G.2.1 0)), (1, .int x), (2, .ref ao)] := hl
  obtain ⟨hz1, hz2, hz3, hz4, hz5, hz6, hz7⟩ := id hz
  have e2 : oRg x 0 7 = oIn x 8 := by rw [show (7 : Int32) = nI 8 - 1 by decide]; exact oRg_p x (by decide)
  refine lv_aload_n hx hb dL_count_0 rfl (lv_at hl 2 rfl) ?_
  refine lv_iconst (v := 0) hx hb dL_count_1 (by decide) ?_
  refine lv_aload_n hx hb dL_count_2 rfl (lv_at hl 0 rfl) ?_
  refine lv_iload_n hx hb dL_count_3 rfl (lv_at hl 1 rfl) ?_
  by_cases h1 : oIn x 8 = true
  · have hc9 : cCount x = 0 := by simp [cCount, h1, e2]
    refine o_cVi (q0 := 0) (ci := 6) [.int x] [.int 0, .ref ao] ⟨hx, hb, hml, hown, hts⟩ (m_X4_count l G α β γ nS nO nH hz x (h1)) (cwV 1 hts gL_count_X4_count rfl rfl rfl (by decide +kernel) ⟨Nat.le_of_ble_eq_true rfl, Nat.le_of_ble_eq_true rfl⟩) hK hN hP rfl rfl (cx_C G _) rfl hl.1 rfl (Nat.le_of_ble_eq_true rfl) dL_count_4 ⟨Nat.zero_le _, Nat.zero_le _⟩ ?_
    have hS : va_S (oL G ao) s.heap s.heap [] := va_S.rf
    refine lv_i2l (v := (kCnt α γ nS nO (oN x)).toInt64) hx hb dL_count_7 rfl ?_
    refine ol_last hx hb hK hP hO hI hao hS dL_count_8 (fun H locs hP hO hS => ?_)
    refine lv_goto (tgt := 15) hx hb dL_count_9 (by decide) ?_
    refine lv_iconst (v := 0) hx hb dL_count_15 (by decide) ?_
    exact ol_ret hx hb hr hlocks hS dL_count_16 (by decide) (by decide) ⟨by exact hP, by rw [hc9]; exact hO⟩ (by rw [hc9]; rfl)
  · have h1 := Bool.eq_false_iff.mpr h1
    have hc9 : cCount x = 1 := by simp [cCount, h1, e2]
    refine ol_cx (q0 := 0) (ci := 6) [.int x] [.int 0, .ref ao] ⟨hx, hb, hml, hown, hts⟩ (mx_X4_count_w l hst G α β γ nS nO nH hz x (h1)) (cwV 1 hts gL_count_X4_count rfl rfl rfl (by decide +kernel) ⟨Nat.le_of_ble_eq_true rfl, Nat.le_of_ble_eq_true rfl⟩) hK hN hP hE rfl rfl (cx_C G _) rfl hl.1 rfl (Nat.le_of_ble_eq_true rfl) dL_count_4 ⟨Nat.le_of_ble_eq_true rfl, Nat.le_of_ble_eq_true rfl⟩ [] ⟨0, 9, 12, 21⟩ [] (htab.trans rfl) (fun z9 h9 => nomatch h9) (by decide) (by decide) (hts (.classLink RL 21 "java/lang/IndexOutOfBoundsException") (List.mem_of_getElem? (i := 1) rfl)) (hE.use _ (List.mem_of_getElem? (i := 0) rfl)) (fun q9 H hsz hkp => ?_)
    have hS : va_S (oL G ao) s.heap H [] := ⟨hsz, fun q hq _ => hkp q hq, fun z hz => nomatch hz⟩
    have hP := hP.kept (fun k q hk => hkp _ (vx_lt hP hk))
    have hO := hO.kept (fun k q hk => hkp _ (vx_lt hO hk))
    refine lv_astore_n (lv' := [(3, .ref q9), (0, .ref (G.2.1 0)), (1, .int x), (2, .ref ao)]) hx hb dL_count_12 rfl hl (by decide) rfl (fun ls hl => ?_)
    refine lv_iconst (v := 1) hx hb dL_count_13 (by decide) ?_
    exact ol_ret hx hb hr hlocks hS dL_count_14 (by decide) (by decide) ⟨by exact hP, by rw [hc9]; exact hO⟩ (by rw [hc9]; rfl)
set_option maxHeartbeats 4000000 in
set_option maxRecDepth 100000 in
theorem mL_foresee (l : Launch) (hst : l.stackTraces = false) (G : oG) (hI : wl_I G.2.1 137) (α β γ : oT) (nS nO nH : Nat) (hz : oOK α nS nO nH) (hb8 : oPi β) (hb9 : nH + 100 < 1000000) (ao : Nat) (f : Nat → Int64) (hao : ¬ oA G ao) (x : Int32) (y : Int32) : Met l yL_foresee wsL_foresee ({ frames := 9, cells := 1, slots := 6, locals := 163 } : Room) (va_Pc [.ref (G.2.1 0), .int x, .int y, .ref ao] (PL G (cw G (z3 α β γ)) ao f)) (oQ (some (.int (nI (cFore nO x y)))) (fun H9 => va_P G.1 vwCl (cw G (if cFore nO x y = 0 then z3 α (oPn (oCpT β α nS nO) nS nO nH (oN y)) γ else z3 α β γ)) H9 ∧ va_P G.1 vwCl (lw1 G ao (if cFore nO x y = 0 then vp_updL f 0 (oPn (oCpT β α nS nO) nS nO nH (oN y) 14 (oN x) 0 - oCpT β α nS nO 14 (oN x) 0).toInt64 else f)) H9) (oL G ao)) 1 6 (oL G ao) := by
  refine ol_body (cc := cL_foresee) (by decide +kernel) rfl (Nat.le_of_ble_eq_true rfl) ?_
  intro p e s m below meth c ls hx hb hml hr hlocks htab hown hts hP hO hK hN hE hC hl
  have hown : s.vm.findClass RL = some m.cls := hown
  have hl : lv_has ls 5 [(0, .ref (G.2.1 0)), (1, .int x), (2, .int y), (3, .ref ao)] := hl
  obtain ⟨hz1, hz2, hz3, hz4, hz5, hz6, hz7⟩ := id hz
  refine lv_aload_n hx hb dL_foresee_0 rfl (lv_at hl 3 rfl) ?_
  refine lv_iconst (v := 0) hx hb dL_foresee_1 (by decide) ?_
  refine lv_aload_n hx hb dL_foresee_2 rfl (lv_at hl 0 rfl) ?_
  refine lv_iload_n hx hb dL_foresee_3 rfl (lv_at hl 1 rfl) ?_
  refine lv_iload_n hx hb dL_foresee_4 rfl (lv_at hl 2 rfl) ?_
  by_cases h1 : oIn x nO = true
  · by_cases h2 : oRg y 1 100 = true
    · have hc9 : cFore nO x y = 0 := by simp [cFore, h1, h2]
      refine ol_cV (A0 := oL G ao) (q0 := 0) (ci := 6) [.int x, .int y] [.int 0, .ref ao] ⟨hx, hb, hml, hown, hts⟩ (m_X4_foresee l G hI α β γ nS nO nH hz x y (h1) (h2) (hb8) (hb9)) (cwV 2 hts gL_foresee_X4_foresee rfl rfl rfl (by decide +kernel) ⟨Nat.le_of_ble_eq_true rfl, Nat.le_of_ble_eq_true rfl⟩) hK hN hP va_S.rf (fun _ h => Or.inl h) rfl rfl (cx_C G _) rfl hl.1 rfl (Nat.le_of_ble_eq_true rfl) dL_foresee_5 ⟨Nat.zero_le _, Nat.zero_le _⟩ (fun H locs hP hk hS => ?_)
      have hO := ol_keep hO hao hk
      refine lv_i2l (v := (oPn (oCpT β α nS nO) nS nO nH (oN y) 14 (oN x) 0 - oCpT β α nS nO 14 (oN x) 0).toInt64) hx hb dL_foresee_8 rfl ?_
      refine ol_last hx hb hK hP hO hI hao hS dL_foresee_9 (fun H locs hP hO hS => ?_)
      refine lv_goto (tgt := 21) hx hb dL_foresee_10 (by decide) ?_
      refine lv_iconst (v := 0) hx hb dL_foresee_21 (by decide) ?_
      exact ol_ret hx hb hr hlocks hS dL_foresee_22 (by decide) (by decide) ⟨by rw [hc9]; exact hP, by rw [hc9]; exact hO⟩ (by rw [hc9]; rfl)
    · have h2 := Bool.eq_false_iff.mpr h2
      have hc9 : cFore nO x y = 2 := by simp [cFore, h1, h2]
      refine ol_cx (q0 := 0) (ci := 6) [.int x, .int y] [.int 0, .ref ao] ⟨hx, hb, hml, hown, hts⟩ (mx_X4_foresee_h l hst G α β γ nS nO nH hz x y (h1) (h2)) (cwV 2 hts gL_foresee_X4_foresee rfl rfl rfl (by decide +kernel) ⟨Nat.le_of_ble_eq_true rfl, Nat.le_of_ble_eq_true rfl⟩) hK hN hP hE rfl rfl (cx_C G _) rfl hl.1 rfl (Nat.le_of_ble_eq_true rfl) dL_foresee_5 ⟨Nat.le_of_ble_eq_true rfl, Nat.le_of_ble_eq_true rfl⟩ [⟨0, 10, 13, 21⟩] ⟨0, 10, 17, 13⟩ [] (htab.trans rfl) (fun z9 h9 => by cases List.mem_singleton.mp h9; exact Or.inr ⟨by decide, "java/lang/IndexOutOfBoundsException", (hts (.classLink RL 21 "java/lang/IndexOutOfBoundsException") (List.mem_of_getElem? (i := 1) rfl)), hC (oXA, oXI) (List.mem_of_getElem? (i := 2) rfl)⟩) (by decide) (by decide) (hts (.classLink RL 13 "java/lang/IllegalArgumentException") (List.mem_of_getElem? (i := 2) rfl)) (hE.use _ (List.mem_of_getElem? (i := 1) rfl)) (fun q9 H hsz hkp => ?_)
      have hS : va_S (oL G ao) s.heap H [] := ⟨hsz, fun q hq _ => hkp q hq, fun z hz => nomatch hz⟩
      have hP := hP.kept (fun k q hk => hkp _ (vx_lt hP hk))
      have hO := hO.kept (fun k q hk => hkp _ (vx_lt hO hk))
      refine lv_astore (lv' := [(4, .ref q9), (0, .ref (G.2.1 0)), (1, .int x), (2, .int y), (3, .ref ao)]) hx hb dL_foresee_17 hl (by decide) rfl (fun ls hl => ?_)
      refine lv_iconst (v := 2) hx hb dL_foresee_19 (by decide) ?_
      exact ol_ret hx hb hr hlocks hS dL_foresee_20 (by decide) (by decide) ⟨by rw [hc9]; exact hP, by rw [hc9]; exact hO⟩ (by rw [hc9]; rfl)
  · have h1 := Bool.eq_false_iff.mpr h1
    have hc9 : cFore nO x y = 1 := by simp [cFore, h1]
    refine ol_cx (q0 := 0) (ci := 6) [.int x, .int y] [.int 0, .ref ao] ⟨hx, hb, hml, hown, hts⟩ (mx_X4_foresee_o l hst G α β γ nS nO nH hz x y (h1)) (cwV 2 hts gL_foresee_X4_foresee rfl rfl rfl (by decide +kernel) ⟨Nat.le_of_ble_eq_true rfl, Nat.le_of_ble_eq_true rfl⟩) hK hN hP hE rfl rfl (cx_C G _) rfl hl.1 rfl (Nat.le_of_ble_eq_true rfl) dL_foresee_5 ⟨Nat.le_of_ble_eq_true rfl, Nat.le_of_ble_eq_true rfl⟩ [] ⟨0, 10, 13, 21⟩ [⟨0, 10, 17, 13⟩] (htab.trans rfl) (fun z9 h9 => nomatch h9) (by decide) (by decide) (hts (.classLink RL 21 "java/lang/IndexOutOfBoundsException") (List.mem_of_getElem? (i := 1) rfl)) (hE.use _ (List.mem_of_getElem? (i := 0) rfl)) (fun q9 H hsz hkp => ?_)
    have hS : va_S (oL G ao) s.heap H [] := ⟨hsz, fun q hq _ => hkp q hq, fun z hz => nomatch hz⟩
    have hP := hP.kept (fun k q hk => hkp _ (vx_lt hP hk))
    have hO := hO.kept (fun k q hk => hkp _ (vx_lt hO hk))
    refine lv_astore (lv' := [(4, .ref q9), (0, .ref (G.2.1 0)), (1, .int x), (2, .int y), (3, .ref ao)]) hx hb dL_foresee_13 hl (by decide) rfl (fun ls hl => ?_)
    refine lv_iconst (v := 1) hx hb dL_foresee_15 (by decide) ?_
    exact ol_ret hx hb hr hlocks hS dL_foresee_16 (by decide) (by decide) ⟨by rw [hc9]; exact hP, by rw [hc9]; exact hO⟩ (by rw [hc9]; rfl)
set_option maxHeartbeats 4000000 in
set_option maxRecDepth 100000 in
theorem mL_advise (l : Launch) (hst : l.stackTraces = false) (G : oG) (hI : wl_I G.2.1 137) (α β γ : oT) (nS nO nH : Nat) (hz : oOK α nS nO nH) (hb8 : oPi β) (hb9 : nH + 100 < 1000000) (ao : Nat) (f : Nat → Int64) (hao : ¬ oA G ao) (x : Int32) (y : Int32) (z : Int32) : Met l yL_advise wsL_advise ({ frames := 9, cells := 1, slots := 6, locals := 168 } : Room) (va_Pc [.ref (G.2.1 0), .int x, .int y, .int z, .ref ao] (PL G (cw G (z3 α β γ)) ao f)) (oQ (some (.int (nI (cAdv nS nO x y z)))) (fun H9 => va_P G.1 vwCl (cw G (if cAdv nS nO x y z = 0 then z3 α ((kAv α β nS nO nH (oN x) y (oN z) (oNp α (oN y))).1) γ else z3 α β γ)) H9 ∧ va_P G.1 vwCl (lw1 G ao (if cAdv nS nO x y z = 0 then vp_updL f 0 ((kAv α β nS nO nH (oN x) y (oN z) (oNp α (oN y))).2.1).toInt64 else f)) H9) (oL G ao)) 1 6 (oL G ao) := by
  refine ol_body (cc := cL_advise) (by decide +kernel) rfl (Nat.le_of_ble_eq_true rfl) ?_
  intro p e s m below meth c ls hx hb hml hr hlocks htab hown hts hP hO hK hN hE hC hl
  have hown : s.vm.findClass RL = some m.cls := hown
  have hl : lv_has ls 6 [(0, .ref (G.2.1 0)), (1, .int x), (2, .int y), (3, .int z), (4, .ref ao)] := hl
  obtain ⟨hz1, hz2, hz3, hz4, hz5, hz6, hz7⟩ := id hz
  refine lv_aload hx hb dL_advise_0 (lv_at hl 4 rfl) ?_
  refine lv_iconst (v := 0) hx hb dL_advise_2 (by decide) ?_
  refine lv_aload_n hx hb dL_advise_3 rfl (lv_at hl 0 rfl) ?_
  refine lv_iload_n hx hb dL_advise_4 rfl (lv_at hl 1 rfl) ?_
  refine lv_iload_n hx hb dL_advise_5 rfl (lv_at hl 2 rfl) ?_
  refine lv_iload_n hx hb dL_advise_6 rfl (lv_at hl 3 rfl) ?_
  by_cases h1 : oIn x nO = true
  · by_cases h2 : oIn y nS = true
    · by_cases h3 : oRg z 1 24 = true
      · have hc9 : cAdv nS nO x y z = 0 := by simp [cAdv, h1, h2, h3]
        refine ol_cV (A0 := oL G ao) (q0 := 0) (ci := 6) [.int x, .int y, .int z] [.int 0, .ref ao] ⟨hx, hb, hml, hown, hts⟩ (m_X4_advise l G hI α β γ nS nO nH hz x y z (h1) (h2) (h3) (hb8) (hb9)) (cwV 3 hts gL_advise_X4_advise rfl rfl rfl (by decide +kernel) ⟨Nat.le_of_ble_eq_true rfl, Nat.le_of_ble_eq_true rfl⟩) hK hN hP va_S.rf (fun _ h => Or.inl h) rfl rfl (cx_C G _) rfl hl.1 rfl (Nat.le_of_ble_eq_true rfl) dL_advise_7 ⟨Nat.zero_le _, Nat.zero_le _⟩ (fun H locs hP hk hS => ?_)
        have hO := ol_keep hO hao hk
        refine lv_i2l (v := ((kAv α β nS nO nH (oN x) y (oN z) (oNp α (oN y))).2.1).toInt64) hx hb dL_advise_10 rfl ?_
        refine ol_last hx hb hK hP hO hI hao hS dL_advise_11 (fun H locs hP hO hS => ?_)
        refine lv_goto (tgt := 23) hx hb dL_advise_12 (by decide) ?_
        refine lv_iconst (v := 0) hx hb dL_advise_23 (by decide) ?_
        exact ol_ret hx hb hr hlocks hS dL_advise_24 (by decide) (by decide) ⟨by rw [hc9]; exact hP, by rw [hc9]; exact hO⟩ (by rw [hc9]; rfl)
      · have h3 := Bool.eq_false_iff.mpr h3
        have hc9 : cAdv nS nO x y z = 2 := by simp [cAdv, h1, h2, h3]
        refine ol_cx (q0 := 0) (ci := 6) [.int x, .int y, .int z] [.int 0, .ref ao] ⟨hx, hb, hml, hown, hts⟩ (mx_X4_advise_h l hst G α β γ nS nO nH hz x y z (h1) (h2) (h3)) (cwV 3 hts gL_advise_X4_advise rfl rfl rfl (by decide +kernel) ⟨Nat.le_of_ble_eq_true rfl, Nat.le_of_ble_eq_true rfl⟩) hK hN hP hE rfl rfl (cx_C G _) rfl hl.1 rfl (Nat.le_of_ble_eq_true rfl) dL_advise_7 ⟨Nat.le_of_ble_eq_true rfl, Nat.le_of_ble_eq_true rfl⟩ [⟨0, 12, 15, 21⟩] ⟨0, 12, 19, 13⟩ [] (htab.trans rfl) (fun z9 h9 => by cases List.mem_singleton.mp h9; exact Or.inr ⟨by decide, "java/lang/IndexOutOfBoundsException", (hts (.classLink RL 21 "java/lang/IndexOutOfBoundsException") (List.mem_of_getElem? (i := 1) rfl)), hC (oXA, oXI) (List.mem_of_getElem? (i := 2) rfl)⟩) (by decide) (by decide) (hts (.classLink RL 13 "java/lang/IllegalArgumentException") (List.mem_of_getElem? (i := 2) rfl)) (hE.use _ (List.mem_of_getElem? (i := 1) rfl)) (fun q9 H hsz hkp => ?_)
        have hS : va_S (oL G ao) s.heap H [] := ⟨hsz, fun q hq _ => hkp q hq, fun z hz => nomatch hz⟩
        have hP := hP.kept (fun k q hk => hkp _ (vx_lt hP hk))
        have hO := hO.kept (fun k q hk => hkp _ (vx_lt hO hk))
        refine lv_astore (lv' := [(5, .ref q9), (0, .ref (G.2.1 0)), (1, .int x), (2, .int y), (3, .int z), (4, .ref ao)]) hx hb dL_advise_19 hl (by decide) rfl (fun ls hl => ?_)
        refine lv_iconst (v := 2) hx hb dL_advise_21 (by decide) ?_
        exact ol_ret hx hb hr hlocks hS dL_advise_22 (by decide) (by decide) ⟨by rw [hc9]; exact hP, by rw [hc9]; exact hO⟩ (by rw [hc9]; rfl)
    · have h2 := Bool.eq_false_iff.mpr h2
      have hc9 : cAdv nS nO x y z = 1 := by simp [cAdv, h1, h2]
      refine ol_cx (q0 := 0) (ci := 6) [.int x, .int y, .int z] [.int 0, .ref ao] ⟨hx, hb, hml, hown, hts⟩ (mx_X4_advise_s l hst G α β γ nS nO nH hz x y z (h1) (h2)) (cwV 3 hts gL_advise_X4_advise rfl rfl rfl (by decide +kernel) ⟨Nat.le_of_ble_eq_true rfl, Nat.le_of_ble_eq_true rfl⟩) hK hN hP hE rfl rfl (cx_C G _) rfl hl.1 rfl (Nat.le_of_ble_eq_true rfl) dL_advise_7 ⟨Nat.le_of_ble_eq_true rfl, Nat.le_of_ble_eq_true rfl⟩ [] ⟨0, 12, 15, 21⟩ [⟨0, 12, 19, 13⟩] (htab.trans rfl) (fun z9 h9 => nomatch h9) (by decide) (by decide) (hts (.classLink RL 21 "java/lang/IndexOutOfBoundsException") (List.mem_of_getElem? (i := 1) rfl)) (hE.use _ (List.mem_of_getElem? (i := 0) rfl)) (fun q9 H hsz hkp => ?_)
      have hS : va_S (oL G ao) s.heap H [] := ⟨hsz, fun q hq _ => hkp q hq, fun z hz => nomatch hz⟩
      have hP := hP.kept (fun k q hk => hkp _ (vx_lt hP hk))
      have hO := hO.kept (fun k q hk => hkp _ (vx_lt hO hk))
      refine lv_astore (lv' := [(5, .ref q9), (0, .ref (G.2.1 0)), (1, .int x), (2, .int y), (3, .int z), (4, .ref ao)]) hx hb dL_advise_15 hl (by decide) rfl (fun ls hl => ?_)
      refine lv_iconst (v := 1) hx hb dL_advise_17 (by decide) ?_
      exact ol_ret hx hb hr hlocks hS dL_advise_18 (by decide) (by decide) ⟨by rw [hc9]; exact hP, by rw [hc9]; exact hO⟩ (by rw [hc9]; rfl)
  · have h1 := Bool.eq_false_iff.mpr h1
    have hc9 : cAdv nS nO x y z = 1 := by simp [cAdv, h1]
    refine ol_cx (q0 := 0) (ci := 6) [.int x, .int y, .int z] [.int 0, .ref ao] ⟨hx, hb, hml, hown, hts⟩ (mx_X4_advise_o l hst G α β γ nS nO nH hz x y z (h1)) (cwV 3 hts gL_advise_X4_advise rfl rfl rfl (by decide +kernel) ⟨Nat.le_of_ble_eq_true rfl, Nat.le_of_ble_eq_true rfl⟩) hK hN hP hE rfl rfl (cx_C G _) rfl hl.1 rfl (Nat.le_of_ble_eq_true rfl) dL_advise_7 ⟨Nat.le_of_ble_eq_true rfl, Nat.le_of_ble_eq_true rfl⟩ [] ⟨0, 12, 15, 21⟩ [⟨0, 12, 19, 13⟩] (htab.trans rfl) (fun z9 h9 => nomatch h9) (by decide) (by decide) (hts (.classLink RL 21 "java/lang/IndexOutOfBoundsException") (List.mem_of_getElem? (i := 1) rfl)) (hE.use _ (List.mem_of_getElem? (i := 0) rfl)) (fun q9 H hsz hkp => ?_)
    have hS : va_S (oL G ao) s.heap H [] := ⟨hsz, fun q hq _ => hkp q hq, fun z hz => nomatch hz⟩
    have hP := hP.kept (fun k q hk => hkp _ (vx_lt hP hk))
    have hO := hO.kept (fun k q hk => hkp _ (vx_lt hO hk))
    refine lv_astore (lv' := [(5, .ref q9), (0, .ref (G.2.1 0)), (1, .int x), (2, .int y), (3, .int z), (4, .ref ao)]) hx hb dL_advise_15 hl (by decide) rfl (fun ls hl => ?_)
    refine lv_iconst (v := 1) hx hb dL_advise_17 (by decide) ?_
    exact ol_ret hx hb hr hlocks hS dL_advise_18 (by decide) (by decide) ⟨by rw [hc9]; exact hP, by rw [hc9]; exact hO⟩ (by rw [hc9]; rfl)
set_option maxHeartbeats 4000000 in
set_option maxRecDepth 100000 in
theorem mL_byteAt (l : Launch) (hst : l.stackTraces = false) (G : oG) (hI : wl_I G.2.1 137) (α β γ : oT) (nS nO nH : Nat) (hz : oOK α nS nO nH) (hg : pOK γ) (ao : Nat) (f : Nat → Int64) (hao : ¬ oA G ao) (x : Int32) : Met l yL_byteAt wsL_byteAt ({ frames := 8, cells := 1, slots := 6, locals := 124 } : Room) (va_Pc [.ref (G.2.1 0), .int x, .ref ao] (PL G (cw G (z3 α β γ)) ao f)) (oQ (some (.int (nI (cByte (oN (γ 0 0 0)) x)))) (fun H9 => va_P G.1 vwCl (cw G (z3 α β γ)) H9 ∧ va_P G.1 vwCl (lw1 G ao (if cByte (oN (γ 0 0 0)) x = 0 then vp_updL f 0 (γ 1 0 (oN x)).toInt64 else f)) H9) (oL G ao)) 1 6 (oL G ao) := by
  refine ol_body (cc := cL_byteAt) (by decide +kernel) rfl (Nat.le_of_ble_eq_true rfl) ?_
  intro p e s m below meth c ls hx hb hml hr hlocks htab hown hts hP hO hK hN hE hC hl
  have hown : s.vm.findClass RL = some m.cls := hown
  have hl : lv_has ls 4 [(0, .ref (G.2.1 0)), (1, .int x), (2, .ref ao)] := hl
  obtain ⟨hz1, hz2, hz3, hz4, hz5, hz6, hz7⟩ := id hz
  refine lv_aload_n hx hb dL_byteAt_0 rfl (lv_at hl 2 rfl) ?_
  refine lv_iconst (v := 0) hx hb dL_byteAt_1 (by decide) ?_
  refine lv_aload_n hx hb dL_byteAt_2 rfl (lv_at hl 0 rfl) ?_
  refine lv_iload_n hx hb dL_byteAt_3 rfl (lv_at hl 1 rfl) ?_
  by_cases h1 : oIn x (oN (γ 0 0 0)) = true
  · have hc9 : cByte (oN (γ 0 0 0)) x = 0 := by simp [cByte, h1]
    refine o_cVi (q0 := 0) (ci := 6) [.int x] [.int 0, .ref ao] ⟨hx, hb, hml, hown, hts⟩ (m_X4_byteAt l G α β γ x (hg) (h1)) (cwV 1 hts gL_byteAt_X4_byteAt rfl rfl rfl (by decide +kernel) ⟨Nat.le_of_ble_eq_true rfl, Nat.le_of_ble_eq_true rfl⟩) hK hN hP rfl rfl (cx_C G _) rfl hl.1 rfl (Nat.le_of_ble_eq_true rfl) dL_byteAt_4 ⟨Nat.zero_le _, Nat.zero_le _⟩ ?_
    have hS : va_S (oL G ao) s.heap s.heap [] := va_S.rf
    refine lv_i2l (v := (γ 1 0 (oN x)).toInt64) hx hb dL_byteAt_7 rfl ?_
    refine ol_last hx hb hK hP hO hI hao hS dL_byteAt_8 (fun H locs hP hO hS => ?_)
    refine lv_goto (tgt := 15) hx hb dL_byteAt_9 (by decide) ?_
    refine lv_iconst (v := 0) hx hb dL_byteAt_15 (by decide) ?_
    exact ol_ret hx hb hr hlocks hS dL_byteAt_16 (by decide) (by decide) ⟨by exact hP, by rw [hc9]; exact hO⟩ (by rw [hc9]; rfl)
  · have h1 := Bool.eq_false_iff.mpr h1
    have hc9 : cByte (oN (γ 0 0 0)) x = 1 := by simp [cByte, h1]
    refine ol_cx (q0 := 0) (ci := 6) [.int x] [.int 0, .ref ao] ⟨hx, hb, hml, hown, hts⟩ (mx_X4_byteAt_i l hst G α β γ x (hg) (h1)) (cwV 1 hts gL_byteAt_X4_byteAt rfl rfl rfl (by decide +kernel) ⟨Nat.le_of_ble_eq_true rfl, Nat.le_of_ble_eq_true rfl⟩) hK hN hP hE rfl rfl (cx_C G _) rfl hl.1 rfl (Nat.le_of_ble_eq_true rfl) dL_byteAt_4 ⟨Nat.le_of_ble_eq_true rfl, Nat.le_of_ble_eq_true rfl⟩ [] ⟨0, 9, 12, 21⟩ [] (htab.trans rfl) (fun z9 h9 => nomatch h9) (by decide) (by decide) (hts (.classLink RL 21 "java/lang/IndexOutOfBoundsException") (List.mem_of_getElem? (i := 1) rfl)) (hE.use _ (List.mem_of_getElem? (i := 0) rfl)) (fun q9 H hsz hkp => ?_)
    have hS : va_S (oL G ao) s.heap H [] := ⟨hsz, fun q hq _ => hkp q hq, fun z hz => nomatch hz⟩
    have hP := hP.kept (fun k q hk => hkp _ (vx_lt hP hk))
    have hO := hO.kept (fun k q hk => hkp _ (vx_lt hO hk))
    refine lv_astore_n (lv' := [(3, .ref q9), (0, .ref (G.2.1 0)), (1, .int x), (2, .ref ao)]) hx hb dL_byteAt_12 rfl hl (by decide) rfl (fun ls hl => ?_)
    refine lv_iconst (v := 1) hx hb dL_byteAt_13 (by decide) ?_
    exact ol_ret hx hb hr hlocks hS dL_byteAt_14 (by decide) (by decide) ⟨by exact hP, by rw [hc9]; exact hO⟩ (by rw [hc9]; rfl)
