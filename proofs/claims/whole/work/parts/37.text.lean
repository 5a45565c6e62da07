set_option maxHeartbeats 4000000 in
set_option maxRecDepth 100000 in
theorem m_X1_writeText (l : Launch) (G : oG) (hI : wl_I G.2.1 137) (α β γ : oT) (hg : pOK γ) (a : Nat) (v : Nat) (n : Nat) (f : Nat → Int32) (hn : n < 2 ^ 31) (hcc : ∀ k, k < n → narrow .char (.int (oCh (f k))) = .int (oCh (f k))) : Met l yX1_writeText wsX1_writeText ({ frames := 4, cells := 0, slots := 0, locals := 85 } : Room) (va_Pc [.ref (G.2.1 135), .ref a] (PT G (cw G (z3 α β γ)) a v n f (oA G))) (oQ none (fun H9 => va_P G.1 vwCl (cw G (z3 α β (kText γ f n))) H9) (oA G)) 0 0 (oA G) := by
  refine oT_body (cc := cX1_writeText) (by decide +kernel) rfl (Nat.le_of_ble_eq_true rfl) ?_
  intro p e s m below meth c ls hx hb hml hr hlocks hown hts hP hK hN hT hZ hl
  have hown : s.vm.findClass RX1 = some m.cls := hown
  have hl : lv_has ls 3 [(0, .ref (G.2.1 135)), (1, .ref a)] := hl
  have hS : va_S (oA G) s.heap s.heap [] := va_S.rf
  refine lv_iconst (v := 0) hx hb dX1_writeText_0 (by decide) ?_
  refine lv_istore_n (lv' := [(2, .int 0), (0, .ref (G.2.1 135)), (1, .ref a)]) hx hb dX1_writeText_1 rfl hl (by decide) rfl (fun ls hl => ?_)
  have lp2 : ∀ (d2 k : Nat), k + d2 = n → ∀ x2_2 : Int32, x2_2 = (nI k) → ∀ (τ2 : oZ), τ2 = (z3 α β (kText γ f k)) → ∀ (H : Heap) (locs : List Loc), va_P G.1 vwCl (cw G τ2) H → va_S (oA G) s.heap H locs → ∀ ls : Array Slot, lv_has ls 3 [(0, .ref (G.2.1 135)), (1, .ref a), (2, .int x2_2)] → W p l e ({ frames := 4, cells := 0, slots := 0, locals := 85 } : Room) s m ([.ref (G.2.1 135), .ref a] : List Value).toArray below meth c H locs 0 0 (MQ below (oQ none (fun H9 => va_P G.1 vwCl (cw G (z3 α β (kText γ f n))) H9) (oA G)) ([.ref (G.2.1 135), .ref a] : List Value).toArray s 0 0 (oA G)) (F0 m 2 ls []) := by
    intro d2
    induction d2 with
    | zero =>
      intro k hk2 x2_2 e2_2 τ2 eτ2 H locs hP hS ls hl
      subst e2_2
      subst eτ2
      have hz2_2 : pOK (kText γ f k) := kText_ok hg f k
      have hk2 : k = n := by omega
      refine lv_iload_n hx hb dX1_writeText_2 rfl (lv_at hl 2 rfl) ?_
      refine lv_aload_n hx hb dX1_writeText_3 rfl (lv_at hl 1 rfl) ?_
      refine oS_cV [] [.int (nI k)] ⟨hx, hb, hml, hown, hts⟩ (m_J0_length l a v n f) (cwV 0 hts gX1_writeText_J0_length_8abf5 rfl rfl rfl (by decide +kernel) ⟨Nat.le_of_ble_eq_true rfl, Nat.le_of_ble_eq_true rfl⟩) hT hZ hS rfl hl.1 rfl (Nat.le_of_ble_eq_true rfl) dX1_writeText_4 ⟨Nat.zero_le _, Nat.zero_le _⟩ ?_
      refine lv_icmp_ge (tgt := 25) hx hb dX1_writeText_7 (by decide) (fun c7 => ?_) (fun c7 => ?_)
      · have n7 := (o_nle (a := n) (b := k) rfl rfl (by omega) (by omega)).mp c7
        exact o_vretM hx hb hr hlocks hS dX1_writeText_25 (by subst hk2; exact hP)
      · have n7 := (mt (o_nle (a := n) (b := k) rfl rfl (by omega) (by omega)).mpr) c7; omega
    | succ d2 ih2 =>
      intro k hk2 x2_2 e2_2 τ2 eτ2 H locs hP hS ls hl
      subst e2_2
      subst eτ2
      have hz2_2 : pOK (kText γ f k) := kText_ok hg f k
      have hj2 : k < n := by omega
      refine lv_iload_n hx hb dX1_writeText_2 rfl (lv_at hl 2 rfl) ?_
      refine lv_aload_n hx hb dX1_writeText_3 rfl (lv_at hl 1 rfl) ?_
      refine oS_cV [] [.int (nI k)] ⟨hx, hb, hml, hown, hts⟩ (m_J0_length l a v n f) (cwV 0 hts gX1_writeText_J0_length_8abf5 rfl rfl rfl (by decide +kernel) ⟨Nat.le_of_ble_eq_true rfl, Nat.le_of_ble_eq_true rfl⟩) hT hZ hS rfl hl.1 rfl (Nat.le_of_ble_eq_true rfl) dX1_writeText_4 ⟨Nat.zero_le _, Nat.zero_le _⟩ ?_
      refine lv_icmp_ge (tgt := 25) hx hb dX1_writeText_7 (by decide) (fun c7 => ?_) (fun c7 => ?_)
      · have n7 := (o_nle (a := n) (b := k) rfl rfl (by omega) (by omega)).mp c7; omega
      · have n7 := (mt (o_nle (a := n) (b := k) rfl rfl (by omega) (by omega)).mpr) c7
        refine lv_aload_n hx hb dX1_writeText_10 rfl (lv_at hl 0 rfl) ?_
        refine lv_aload_n hx hb dX1_writeText_11 rfl (lv_at hl 1 rfl) ?_
        refine lv_iload_n hx hb dX1_writeText_12 rfl (lv_at hl 2 rfl) ?_
        refine oS_cV [.int (nI k)] [.ref (G.2.1 135)] ⟨hx, hb, hml, hown, hts⟩ (m_J0_charAt l a v n f hn k (by omega) (hcc k (by omega))) (cwV 1 hts gX1_writeText_J0_charAt_5068e rfl rfl rfl (by decide +kernel) ⟨Nat.le_of_ble_eq_true rfl, Nat.le_of_ble_eq_true rfl⟩) hT hZ hS rfl hl.1 rfl (Nat.le_of_ble_eq_true rfl) dX1_writeText_13 ⟨Nat.zero_le _, Nat.zero_le _⟩ ?_
        refine o_cVmv (q0 := 135) (ci := 3) [.int (oCh (f k))] [] ⟨hx, hb, hml, hown, hts⟩ (m_X1_writeByte l G hI α β (kText γ f k) hz2_2 (oCh (f k))) (cwV 1 hts gX1_writeText_X1_writeByte rfl rfl rfl (by decide +kernel) ⟨Nat.le_of_ble_eq_true rfl, Nat.le_of_ble_eq_true rfl⟩) hK hN hP hS rfl rfl (cx_P G (z3 α β (kText γ f k))) rfl hl.1 rfl (Nat.le_of_ble_eq_true rfl) dX1_writeText_16 ⟨Nat.zero_le _, Nat.zero_le _⟩ (fun H locs hP hS => ?_)
        refine lv_iinc (v := nI (k + 1)) (lv' := [(2, .int (nI (k + 1))), (0, .ref (G.2.1 135)), (1, .ref a)]) hx hb dX1_writeText_19 hl (k := 2) rfl (nI_1 k) (by decide) rfl (fun ls hl => ?_)
        refine lv_goto (tgt := 2) hx hb dX1_writeText_22 (by decide) ?_
        exact ih2 (k + 1) (by omega) _ (rfl) _ (rfl) _ _ hP hS ls (lv_sub hl [1, 2, 0] rfl)
  exact lp2 (n) 0 (by omega) _ (rfl) _ (rfl) _ _ hP hS ls (lv_sub hl [1, 2, 0] rfl)
