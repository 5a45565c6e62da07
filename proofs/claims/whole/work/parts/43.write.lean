set_option maxHeartbeats 4000000 in
set_option maxRecDepth 100000 in
theorem m_X6_write (l : Launch) (G : oG) (hI : wl_I G.2.1 39) (α β γ : oT) (a : Nat) (v : Nat) (n : Nat) (f : Nat → Int32) (hn : n < 2 ^ 31) (hcc : ∀ k, k < n → narrow .char (.int (oCh (f k))) = .int (oCh (f k))) (nP : Nat) (hp1 : γ 41 0 1 = nI nP) (hp2 : nP + n + 1 ≤ 1000) : Met l yX6_write wsX6_write ({ frames := 4, cells := 0, slots := 0, locals := 85 } : Room) (va_Pc [.ref (G.2.1 0), .ref a] (PT G (mw G (z3 α β γ)) a v n f (mA G))) (oQ none (fun H9 => va_P G.1 vwCl (mw G (z3 α β (mWrT γ nP n f))) H9) (mA G)) 0 0 (mA G) := by
  refine oT_body (cc := cX6_write) (by decide +kernel) rfl (Nat.le_of_ble_eq_true rfl) ?_
  intro p e s m below meth c ls hx hb hml hr hlocks hown hts hP hK hN hT hZ hl
  have hown : s.vm.findClass RX6 = some m.cls := hown
  have hl : lv_has ls 3 [(0, .ref (G.2.1 0)), (1, .ref a)] := hl
  have hS : va_S (mA G) s.heap s.heap [] := va_S.rf
  refine lv_iconst (v := 0) hx hb dX6_write_0 (by decide) ?_
  refine lv_istore_n (lv' := [(2, .int 0), (0, .ref (G.2.1 0)), (1, .ref a)]) hx hb dX6_write_1 rfl hl (by decide) rfl (fun ls hl => ?_)
  have lp2 : ∀ (d2 k : Nat), k + d2 = n → ∀ x2_2 : Int32, x2_2 = (nI k) → ∀ (τ2 : oZ), τ2 = (z3 α β (mWr γ nP f k)) → ∀ (H : Heap) (locs : List Loc), va_P G.1 vwCl (mw G τ2) H → va_S (mA G) s.heap H locs → ∀ ls : Array Slot, lv_has ls 3 [(0, .ref (G.2.1 0)), (1, .ref a), (2, .int x2_2)] → W p l e ({ frames := 4, cells := 0, slots := 0, locals := 85 } : Room) s m ([.ref (G.2.1 0), .ref a] : List Value).toArray below meth c H locs 0 0 (MQ below (oQ none (fun H9 => va_P G.1 vwCl (mw G (z3 α β (mWrT γ nP n f))) H9) (mA G)) ([.ref (G.2.1 0), .ref a] : List Value).toArray s 0 0 (mA G)) (F0 m 2 ls []) := by
    intro d2
    induction d2 with
    | zero =>
      intro k hk2 x2_2 e2_2 τ2 eτ2 H locs hP hS ls hl
      subst e2_2
      subst eτ2
      have hk2 : k = n := by omega
      refine lv_iload_n hx hb dX6_write_2 rfl (lv_at hl 2 rfl) ?_
      refine lv_aload_n hx hb dX6_write_3 rfl (lv_at hl 1 rfl) ?_
      refine oS_cV [] [.int (nI k)] ⟨hx, hb, hml, hown, hts⟩ (m_J0_length l a v n f) (cwV 0 hts gX6_write_J0_length_8abf5 rfl rfl rfl (by decide +kernel) ⟨Nat.le_of_ble_eq_true rfl, Nat.le_of_ble_eq_true rfl⟩) hT hZ hS rfl hl.1 rfl (Nat.le_of_ble_eq_true rfl) dX6_write_4 ⟨Nat.zero_le _, Nat.zero_le _⟩ ?_
      refine lv_icmp_ge (tgt := 40) hx hb dX6_write_7 (by decide) (fun c7 => ?_) (fun c7 => ?_)
      · have n7 := (o_nle (a := n) (b := k) rfl rfl (by omega) (by omega)).mp c7
        refine lv_aload_n hx hb dX6_write_40 rfl (lv_at hl 0 rfl) ?_
        refine va_get (D := G.1) (ci := 8) (v := .ref (G.2.1 2)) (C := RX6) (T := TX6) (N := 6) hx hb hts (fun w9 h9 => List.mem_cons_of_mem _ (List.mem_append_left _ (List.mem_append_right _ (h9)))) hown hK hP (0) (mw_M G (z3 α β (mWr γ nP f k))) rfl 2 (by decide) (hts (.fieldLink RX6 13 "OrganCensusModel" "paper" "[I") (List.mem_of_getElem? (i := 1) rfl)) (fun _ h9 => h9) rfl dX6_write_41 ?_
        refine lv_aload_n hx hb dX6_write_44 rfl (lv_at hl 0 rfl) ?_
        refine va_get (D := G.1) (ci := 8) (v := .int ((mWr γ nP f k) 41 0 1)) (C := RX6) (T := TX6) (N := 6) hx hb hts (fun w9 h9 => List.mem_cons_of_mem _ (List.mem_append_left _ (List.mem_append_right _ (h9)))) hown hK hP (0) (mw_M G (z3 α β (mWr γ nP f k))) rfl 3 (by decide) (hts (.fieldLink RX6 148 "OrganCensusModel" "papered" "I") (List.mem_of_getElem? (i := 2) rfl)) (fun _ h9 => h9) rfl dX6_write_45 ?_
        refine lv_bipush (v := 10) hx hb dX6_write_48 (by decide) ?_
        refine o_iast (k := nP + k) hx hb hK hP (mw_D G _ hI) hS (2) 0 (mw_MW G (z3 α β (mWr γ nP f k))) rfl (mWr_p hp1 f k) (by omega) (by decide) dX6_write_50 (fun H locs hP hD hS => ?_)
        have hP : va_P G.1 vwCl (mw G (z3 α β (su (mWr γ nP f k) 43 0 (nP + k) 10))) H := by rw [← (mw_zP (a := α) (b := β) (c := (mWr γ nP f k)) (τ' := su (mWr γ nP f k) 43 0 (nP + k) 10) (mw_uMW G (z3 α β (mWr γ nP f k)) (nP + k) 10))]; exact hP
        clear hD
        refine lv_aload_n hx hb dX6_write_51 rfl (lv_at hl 0 rfl) ?_
        refine lv_dup hx hb dX6_write_52 rfl ?_
        refine va_get (D := G.1) (ci := 8) (v := .int ((su (mWr γ nP f k) 43 0 (nP + k) 10) 41 0 1)) (C := RX6) (T := TX6) (N := 6) hx hb hts (fun w9 h9 => List.mem_cons_of_mem _ (List.mem_append_left _ (List.mem_append_right _ (h9)))) hown hK hP (0) (mw_M G (z3 α β (su (mWr γ nP f k) 43 0 (nP + k) 10))) rfl 3 (by decide) (hts (.fieldLink RX6 148 "OrganCensusModel" "papered" "I") (List.mem_of_getElem? (i := 2) rfl)) (fun _ h9 => h9) rfl dX6_write_53 ?_
        refine lv_iconst (v := 1) hx hb dX6_write_56 (by decide) ?_
        refine lv_iadd hx hb dX6_write_57 ?_
        rw [show (su (mWr γ nP f k) 43 0 (nP + k) 10) 41 0 1 + 1 = nI (nP + k + 1) from by rw [su_k _ _ _ _ (by decide), mWr_p hp1 f k, nI_1]]
        refine va_put (D := G.1) (ci := 8) (v := .int (nI (nP + k + 1))) (ty := .int) (C := RX6) (T := TX6) (N := 6) hx hb hts (fun w9 h9 => List.mem_cons_of_mem _ (List.mem_append_left _ (List.mem_append_right _ (h9)))) tyX6 tyX6_ok nmX6 hown hK hP (mw_D G _ hI) hS (0) (mw_M G (z3 α β (su (mWr γ nP f k) 43 0 (nP + k) 10))) rfl 3 (by decide) (hts (.fieldLink RX6 148 "OrganCensusModel" "papered" "I") (List.mem_of_getElem? (i := 2) rfl)) (fun _ h9 => h9) rfl (by decide +kernel) rfl rfl (Nat.le_of_ble_eq_true rfl) dX6_write_58 (fun H locs hP hD hS => ?_)
        have hP : va_P G.1 vwCl (mw G (z3 α β (su (su (mWr γ nP f k) 43 0 (nP + k) 10) 41 0 1 (nI (nP + k + 1))))) H := by rw [← (mw_zP (a := α) (b := β) (c := (su (mWr γ nP f k) 43 0 (nP + k) 10)) (τ' := su (su (mWr γ nP f k) 43 0 (nP + k) 10) 41 0 1 (nI (nP + k + 1))) (mw_uM1 G (z3 α β (su (mWr γ nP f k) 43 0 (nP + k) 10)) (nI (nP + k + 1))))]; exact hP
        clear hD
        exact o_vretM hx hb hr hlocks hS dX6_write_61 (by subst hk2; exact hP)
      · have n7 := (mt (o_nle (a := n) (b := k) rfl rfl (by omega) (by omega)).mpr) c7; omega
    | succ d2 ih2 =>
      intro k hk2 x2_2 e2_2 τ2 eτ2 H locs hP hS ls hl
      subst e2_2
      subst eτ2
      have hj2 : k < n := by omega
      refine lv_iload_n hx hb dX6_write_2 rfl (lv_at hl 2 rfl) ?_
      refine lv_aload_n hx hb dX6_write_3 rfl (lv_at hl 1 rfl) ?_
      refine oS_cV [] [.int (nI k)] ⟨hx, hb, hml, hown, hts⟩ (m_J0_length l a v n f) (cwV 0 hts gX6_write_J0_length_8abf5 rfl rfl rfl (by decide +kernel) ⟨Nat.le_of_ble_eq_true rfl, Nat.le_of_ble_eq_true rfl⟩) hT hZ hS rfl hl.1 rfl (Nat.le_of_ble_eq_true rfl) dX6_write_4 ⟨Nat.zero_le _, Nat.zero_le _⟩ ?_
      refine lv_icmp_ge (tgt := 40) hx hb dX6_write_7 (by decide) (fun c7 => ?_) (fun c7 => ?_)
      · have n7 := (o_nle (a := n) (b := k) rfl rfl (by omega) (by omega)).mp c7; omega
      · have n7 := (mt (o_nle (a := n) (b := k) rfl rfl (by omega) (by omega)).mpr) c7
        refine lv_aload_n hx hb dX6_write_10 rfl (lv_at hl 0 rfl) ?_
        refine va_get (D := G.1) (ci := 8) (v := .ref (G.2.1 2)) (C := RX6) (T := TX6) (N := 6) hx hb hts (fun w9 h9 => List.mem_cons_of_mem _ (List.mem_append_left _ (List.mem_append_right _ (h9)))) hown hK hP (0) (mw_M G (z3 α β (mWr γ nP f k))) rfl 2 (by decide) (hts (.fieldLink RX6 13 "OrganCensusModel" "paper" "[I") (List.mem_of_getElem? (i := 1) rfl)) (fun _ h9 => h9) rfl dX6_write_11 ?_
        refine lv_aload_n hx hb dX6_write_14 rfl (lv_at hl 0 rfl) ?_
        refine va_get (D := G.1) (ci := 8) (v := .int ((mWr γ nP f k) 41 0 1)) (C := RX6) (T := TX6) (N := 6) hx hb hts (fun w9 h9 => List.mem_cons_of_mem _ (List.mem_append_left _ (List.mem_append_right _ (h9)))) hown hK hP (0) (mw_M G (z3 α β (mWr γ nP f k))) rfl 3 (by decide) (hts (.fieldLink RX6 148 "OrganCensusModel" "papered" "I") (List.mem_of_getElem? (i := 2) rfl)) (fun _ h9 => h9) rfl dX6_write_15 ?_
        refine lv_aload_n hx hb dX6_write_18 rfl (lv_at hl 1 rfl) ?_
        refine lv_iload_n hx hb dX6_write_19 rfl (lv_at hl 2 rfl) ?_
        refine oS_cV [.int (nI k)] [.int ((mWr γ nP f k) 41 0 1), .ref (G.2.1 2)] ⟨hx, hb, hml, hown, hts⟩ (m_J0_charAt l a v n f hn k (by omega) (hcc k (by omega))) (cwV 1 hts gX6_write_J0_charAt_5068e rfl rfl rfl (by decide +kernel) ⟨Nat.le_of_ble_eq_true rfl, Nat.le_of_ble_eq_true rfl⟩) hT hZ hS rfl hl.1 rfl (Nat.le_of_ble_eq_true rfl) dX6_write_20 ⟨Nat.zero_le _, Nat.zero_le _⟩ ?_
        refine o_iast (k := nP + k) hx hb hK hP (mw_D G _ hI) hS (2) 0 (mw_MW G (z3 α β (mWr γ nP f k))) rfl (mWr_p hp1 f k) (by omega) (by decide) dX6_write_23 (fun H locs hP hD hS => ?_)
        have hP : va_P G.1 vwCl (mw G (z3 α β (su (mWr γ nP f k) 43 0 (nP + k) (oCh (f k))))) H := by rw [← (mw_zP (a := α) (b := β) (c := (mWr γ nP f k)) (τ' := su (mWr γ nP f k) 43 0 (nP + k) (oCh (f k))) (mw_uMW G (z3 α β (mWr γ nP f k)) (nP + k) (oCh (f k))))]; exact hP
        clear hD
        refine lv_aload_n hx hb dX6_write_24 rfl (lv_at hl 0 rfl) ?_
        refine lv_dup hx hb dX6_write_25 rfl ?_
        refine va_get (D := G.1) (ci := 8) (v := .int ((su (mWr γ nP f k) 43 0 (nP + k) (oCh (f k))) 41 0 1)) (C := RX6) (T := TX6) (N := 6) hx hb hts (fun w9 h9 => List.mem_cons_of_mem _ (List.mem_append_left _ (List.mem_append_right _ (h9)))) hown hK hP (0) (mw_M G (z3 α β (su (mWr γ nP f k) 43 0 (nP + k) (oCh (f k))))) rfl 3 (by decide) (hts (.fieldLink RX6 148 "OrganCensusModel" "papered" "I") (List.mem_of_getElem? (i := 2) rfl)) (fun _ h9 => h9) rfl dX6_write_26 ?_
        refine lv_iconst (v := 1) hx hb dX6_write_29 (by decide) ?_
        refine lv_iadd hx hb dX6_write_30 ?_
        rw [show (su (mWr γ nP f k) 43 0 (nP + k) (oCh (f k))) 41 0 1 + 1 = nI (nP + k + 1) from by rw [su_k _ _ _ _ (by decide), mWr_p hp1 f k, nI_1]]
        refine va_put (D := G.1) (ci := 8) (v := .int (nI (nP + k + 1))) (ty := .int) (C := RX6) (T := TX6) (N := 6) hx hb hts (fun w9 h9 => List.mem_cons_of_mem _ (List.mem_append_left _ (List.mem_append_right _ (h9)))) tyX6 tyX6_ok nmX6 hown hK hP (mw_D G _ hI) hS (0) (mw_M G (z3 α β (su (mWr γ nP f k) 43 0 (nP + k) (oCh (f k))))) rfl 3 (by decide) (hts (.fieldLink RX6 148 "OrganCensusModel" "papered" "I") (List.mem_of_getElem? (i := 2) rfl)) (fun _ h9 => h9) rfl (by decide +kernel) rfl rfl (Nat.le_of_ble_eq_true rfl) dX6_write_31 (fun H locs hP hD hS => ?_)
        have hP : va_P G.1 vwCl (mw G (z3 α β (su (su (mWr γ nP f k) 43 0 (nP + k) (oCh (f k))) 41 0 1 (nI (nP + k + 1))))) H := by rw [← (mw_zP (a := α) (b := β) (c := (su (mWr γ nP f k) 43 0 (nP + k) (oCh (f k)))) (τ' := su (su (mWr γ nP f k) 43 0 (nP + k) (oCh (f k))) 41 0 1 (nI (nP + k + 1))) (mw_uM1 G (z3 α β (su (mWr γ nP f k) 43 0 (nP + k) (oCh (f k)))) (nI (nP + k + 1))))]; exact hP
        clear hD
        refine lv_iinc (v := nI (k + 1)) (lv' := [(2, .int (nI (k + 1))), (0, .ref (G.2.1 0)), (1, .ref a)]) hx hb dX6_write_34 hl (k := 2) rfl (nI_1 k) (by decide) rfl (fun ls hl => ?_)
        refine lv_goto (tgt := 2) hx hb dX6_write_37 (by decide) ?_
        exact ih2 (k + 1) (by omega) _ (rfl) _ (rfl) _ _ hP hS ls (lv_sub hl [1, 2, 0] rfl)
  exact lp2 (n) 0 (by omega) _ (rfl) _ (rfl) _ _ hP hS ls (lv_sub hl [1, 2, 0] rfl)
