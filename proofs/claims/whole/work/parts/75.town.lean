/-! A town made -/
def X3R (b d i : Nat) : Nat → Option Nat := fun q => if q < i then some (b + d * q) else none
theorem X3R_0 (b d : Nat) : X3R b d 0 = fun _ => none := by funext q; simp [X3R]
theorem X3R_s (b d i : Nat) : va_up (X3R b d i) i (some (b + d * i)) = X3R b d (i + 1) := by
  funext q
  by_cases h : q = i
  · subst h; simp [X3R, va_up]
  · by_cases h2 : q < i
    · simp [X3R, va_up, h, h2, show q < i + 1 by omega]
    · simp [X3R, va_up, h, h2, show ¬ q < i + 1 by omega]
def X3A (G : oG) (a i j k : Nat) : va_E := match k with
  | 1 => .inl (G.2.2 1, 6, .inr (.inr (.inr (.inr (X3R (a + 3) 4 i)))))
  | _ => .inl (G.2.2 2, 8, .inr (.inr (.inr (.inr (X3R (a + 27) 5 j)))))
def X3F (G : oG) (a i j : Nat) : Nat → va_E := fun k => if k < 3 then X3A G a i j k else if k < 27 then o0 4 (X2s (a + (3 + 4 * ((k - 3) / 4)))) (X2E G) ((k - 3) % 4) else o0 2 (X0s (a + (27 + 5 * ((k - 27) / 5)))) (X0F G) ((k - 27) % 5)
def X3s (a : Nat) : List Value := [.ref (a + 1), .ref (a + 2), .int 0, .int 0, .int 0]
theorem X3F_S (G : oG) (a i j : Nat) (fs : List Value) {k q : Nat} (hk : k < 6) (hq : q < 4) : o0 5 fs (X3F G a i j) (3 + 4 * k + q) = o0 4 (X2s (a + (3 + 4 * k))) (X2E G) q := by
  rw [o0, if_neg (by omega), X3F, if_neg (by omega), if_pos (by omega), show (3 + 4 * k + q - 3) / 4 = k by omega, show (3 + 4 * k + q - 3) % 4 = q by omega]
theorem X3F_O (G : oG) (a i j : Nat) (fs : List Value) {k q : Nat} (hq : q < 5) : o0 5 fs (X3F G a i j) (27 + 5 * k + q) = o0 2 (X0s (a + (27 + 5 * k))) (X0F G) q := by
  rw [o0, if_neg (by omega), X3F, if_neg (by omega), if_neg (by omega), show (27 + 5 * k + q - 27) / 5 = k by omega, show (27 + 5 * k + q - 27) % 5 = q by omega]
theorem X3F_set1 (G : oG) (a i j N : Nat) (fs : List Value) (hi : i < 2 ^ 31) : (qw a N (o0 5 fs (X3F G a i j))).set 1 (ga a 1, .inl (G.2.2 1, 6, .inr (.inr (.inr (.inr (va_up (X3R (a + 3) 4 i) (nI i).toNatClampNeg (some (a + (3 + 4 * i))))))))) = qw a N (o0 5 fs (X3F G a (i + 1) j)) := wl_set (fun q _ => by
  rw [nI_clamp hi, ← Nat.add_assoc, X3R_s]
  by_cases h : q = 1
  · subst h; rfl
  · rw [if_neg h]
    rcases (show q = 0 ∨ q = 2 ∨ 3 ≤ q by omega) with rfl | rfl | h3
    · rfl
    · rfl
    · rw [o0, o0, if_neg (show ¬ q = 0 by omega), if_neg (show ¬ q = 0 by omega), X3F, X3F, if_neg (show ¬ q < 3 by omega), if_neg (show ¬ q < 3 by omega)])
theorem X3F_set2 (G : oG) (a i j N : Nat) (fs : List Value) (hi : j < 2 ^ 31) : (qw a N (o0 5 fs (X3F G a i j))).set 2 (ga a 2, .inl (G.2.2 2, 8, .inr (.inr (.inr (.inr (va_up (X3R (a + 27) 5 j) (nI j).toNatClampNeg (some (a + (27 + 5 * j))))))))) = qw a N (o0 5 fs (X3F G a i (j + 1))) := wl_set (fun q _ => by
  rw [nI_clamp hi, ← Nat.add_assoc, X3R_s]
  by_cases h : q = 2
  · subst h; rfl
  · rw [if_neg h]
    rcases (show q = 0 ∨ q = 1 ∨ 3 ≤ q by omega) with rfl | rfl | h3
    · rfl
    · rfl
    · rw [o0, o0, if_neg (show ¬ q = 0 by omega), if_neg (show ¬ q = 0 by omega), X3F, X3F, if_neg (show ¬ q < 3 by omega), if_neg (show ¬ q < 3 by omega)])
set_option maxHeartbeats 4000000 in
set_option maxRecDepth 100000 in
theorem m_X3_init (l : Launch) (G : oG) (a : Nat) : Met l yX3_init wsX3_init (({ frames := 2, cells := 66, slots := 570, locals := 43 } : Room)) (va_Pc [.ref a] (PK G [(a, .inr (5, [.null, .null, .int 0, .int 0, .int 0]))] (a + 1))) (oQ none (fun H9 => va_P G.1 vwCl (qw a 67 (o0 5 (X3s a) (X3F G a 6 8))) H9) (sFrom a)) 66 570 (sFrom a) := by
  refine k_body (cc := cX3_init) (by decide +kernel) rfl rfl (Nat.le_of_ble_eq_true rfl) ?_
  intro p e s m below meth c9 ls hx hb hml hr hlocks hin hown hts hP hK hN hz h2 h0 hl
  have hz0 := hz
  have hown : s.vm.findClass RX3 = some m.cls := hown
  have hl : lv_has ls 2 [(0, .ref a)] := hl
  have hS : va_S (sFrom a) s.heap s.heap [] := va_S.rf
  have hP : va_P G.1 vwCl (qw a 1 (o0 5 [.null, .null, .int 0, .int 0, .int 0] (X3F G a 0 0))) s.heap := hP
  have lp2 : ∀ (d k : Nat), k + d = 8 → ∀ (H : Heap) (locs : List Loc), va_P G.1 vwCl (qw a (27 + 5 * k) (o0 5 (X3s a) (X3F G a 6 k))) H → H.size = a + (27 + 5 * k) → va_S (sFrom a) s.heap H locs → ∀ ls : Array Slot, lv_has ls 2 [(1, .int (nI k)), (0, .ref a)] → W p l e ({ frames := 2, cells := 66, slots := 570, locals := 43 } : Room) s m ([.ref a] : List Value).toArray below meth c9 H locs (26 + 5 * k) (266 + 38 * k) (MQ below (oQ none (fun H9 => va_P G.1 vwCl (qw a 67 (o0 5 (X3s a) (X3F G a 6 8))) H9) (sFrom a)) ([.ref a] : List Value).toArray s 66 570 (sFrom a)) (F0 m 51 ls []) := by
    intro d
    induction d with
    | zero =>
      intro k hk H locs hP hz hS ls hl
      have hk : k = 8 := by omega
      subst hk
      refine lv_iload_n hx hb dX3_init_51 rfl (lv_at hl 0 rfl) ?_
      refine lv_bipush (v := 8) hx hb dX3_init_52 (by decide) ?_
      refine lv_icmp_ge (tgt := 76) hx hb dX3_init_54 (by decide) (fun c7 => ?_) (fun c7 => absurd (by decide) c7)
      exact o_vretM hx hb hr hlocks hS dX3_init_76 hP
    | succ d ih =>
      intro k hk H locs hP hz hS ls hl
      have hk6 : k < 8 := by omega
      refine lv_iload_n hx hb dX3_init_51 rfl (lv_at hl 0 rfl) ?_
      refine lv_bipush (v := 8) hx hb dX3_init_52 (by decide) ?_
      refine lv_icmp_ge (tgt := 76) hx hb dX3_init_54 (by decide) (fun c7 => absurd c7 (nI_ge (b := 8) hk6 (by decide))) (fun c7 => ?_)
      refine lv_aload_n hx hb dX3_init_57 rfl (lv_at hl 1 rfl) ?_
      refine va_get (D := G.1) (ci := 5) (v := .ref (a + 2)) (C := RX3) (T := TX3) (N := 5) hx hb hts (fun w9 h9 => List.mem_cons_of_mem _ (List.mem_append_left _ (List.mem_append_left _ (List.mem_append_right _ (h9))))) hown hK hP (0) (qw_at0 (by omega)) rfl 1 (by decide) (hts (.fieldLink RX3 19 "OrganCensus$Town" "organs" "[LOrganCensus$Organ;") (List.mem_of_getElem? (i := 7) rfl)) (fun _ h9 => h9) rfl dX3_init_58 ?_
      refine lv_iload_n hx hb dX3_init_61 rfl (lv_at hl 0 rfl) ?_
      refine k_newC (N := 27 + 5 * k) (ci := 2) (C := RX0) (T := TX0) (n := 12) hx hb hts (fun w9 h9 => List.mem_cons_of_mem _ (List.mem_append_right _ (h9))) tyX0 tyX0_ok hown (hts (.classLink RX3 17 RX0) (List.mem_of_getElem? (i := 6) rfl)) (hts (.instantiable RX0 12) (List.mem_of_getElem? (i := 10) rfl)) (hts (.initialized RX0) (List.mem_of_getElem? (i := 11) rfl)) hK hP hz hS rfl (fs := [.null, .null, .null, .null, .int 0, .int 0, .int 0, .int 0, .int 0, .int 0, .int 0, .int 0]) (by decide +kernel) (show 26 + 5 * k + 1 ≤ 66 by omega) (show 266 + 38 * k + 12 ≤ 570 by omega) dX3_init_62 (fun H hP hPn hz hS => ?_)
      refine lv_dup hx hb dX3_init_65 rfl ?_
      refine k_callN (b := a + (27 + 5 * k)) (N := 27 + 5 * k) [] [.ref (a + (27 + 5 * k)), .int (nI k), .ref (a + 2)] ⟨hx, hb, hml, hown, hts⟩ (m_X0_init l G (a + (27 + 5 * k))) ⟨va_cnB 0 hts gX3_init_X0_init_n24 rfl rfl rfl (hN.2 (RX3, 24, yX0_init, RX4) (List.mem_of_getElem? (i := 1) rfl)) (hts (.initialized RX0) (List.mem_of_getElem? (i := 11) rfl)) (by decide +kernel) ⟨(Nat.le_of_ble_eq_true rfl), (Nat.le_of_ble_eq_true rfl)⟩, rfl, (hts (.instanceMethod yX0_init) (List.mem_of_getElem? (i := 24) rfl))⟩ hK hN h2 h0 hP hPn hz rfl rfl hS rfl hl.1 rfl (Nat.le_of_ble_eq_true rfl) dX3_init_66 ⟨(show 26 + 5 * k + 1 + 4 ≤ 66 by omega), (show 266 + 38 * k + 12 + 26 ≤ 570 by omega)⟩ (fun H locs hPj hP hz9 hS => ?_)
      have hP : va_P G.1 vwCl (qw a (27 + 5 * k + 5) (o0 5 (X3s a) (X3F G a 6 k))) H := qw_join (N := 27 + 5 * k) (M := 5) hP hPj (fun j hj => (X3F_O G a _ _ _ hj).symm)
      have hz : H.size = a + (27 + 5 * k + 5) := by have h9 := (hP (27 + 5 * k + 4) _ (wl_at (by omega) rfl)).lt; simp only [ga] at h9; omega
      refine va_astq (v := a + (27 + 5 * k)) (vs := X0s (a + (27 + 5 * k))) hx hb hK hP (qw_D a _ _) (sS_here hS) 2 2 (27 + 5 * k) 2 (a := ga a 2) (cA := G.2.2 2) (n := 8) (f := X3R (a + 27) 5 k) (wl_at (by omega) rfl) rfl (wl_at (by omega) (X3F_O G a _ _ _ (q := 0) (by decide))) rfl (vp_in_nI hk6 (by decide)) dX3_init_69 (fun H1 locs1 hP _ h3 => o_ub fun h4 => ?_)
      rw [X3F_set2 G a _ _ _ _ (by omega)] at hP
      have hz : H1.size = a + (27 + 5 * k + 5) := by have h9 := h3.1; omega
      have hS := sS_on hS h3
      refine lv_iinc (v := nI (k + 1)) (lv' := [(1, .int (nI (k + 1))), (0, .ref a)]) hx hb dX3_init_70 hl (k := 0) rfl (nI_1 k) (by decide) rfl (fun ls hl => ?_)
      refine lv_goto (tgt := 51) hx hb dX3_init_73 (by decide) ?_
      exact ih (k + 1) (by omega) H1 locs1 hP hz hS ls (lv_sub hl [0, 1] rfl)
  have lp1 : ∀ (d k : Nat), k + d = 6 → ∀ (H : Heap) (locs : List Loc), va_P G.1 vwCl (qw a (3 + 4 * k) (o0 5 (X3s a) (X3F G a k 0))) H → H.size = a + (3 + 4 * k) → va_S (sFrom a) s.heap H locs → ∀ ls : Array Slot, lv_has ls 2 [(1, .int (nI k)), (0, .ref a)] → W p l e ({ frames := 2, cells := 66, slots := 570, locals := 43 } : Room) s m ([.ref a] : List Value).toArray below meth c9 H locs (2 + 4 * k) (14 + 42 * k) (MQ below (oQ none (fun H9 => va_P G.1 vwCl (qw a 67 (o0 5 (X3s a) (X3F G a 6 8))) H9) (sFrom a)) ([.ref a] : List Value).toArray s 66 570 (sFrom a)) (F0 m 24 ls []) := by
    intro d
    induction d with
    | zero =>
      intro k hk H locs hP hz hS ls hl
      have hk : k = 6 := by omega
      subst hk
      refine lv_iload_n hx hb dX3_init_24 rfl (lv_at hl 0 rfl) ?_
      refine lv_bipush (v := 6) hx hb dX3_init_25 (by decide) ?_
      refine lv_icmp_ge (tgt := 49) hx hb dX3_init_27 (by decide) (fun c7 => ?_) (fun c7 => absurd (by decide) c7)
      refine lv_iconst (v := 0) hx hb dX3_init_49 (by decide) ?_
      refine lv_istore_n (lv' := [(1, .int (nI 0)), (0, .ref a)]) hx hb dX3_init_50 rfl hl (by decide) rfl (fun ls hl => ?_)
      exact lp2 8 0 (by omega) H locs hP hz hS ls hl
    | succ d ih =>
      intro k hk H locs hP hz hS ls hl
      have hk6 : k < 6 := by omega
      refine lv_iload_n hx hb dX3_init_24 rfl (lv_at hl 0 rfl) ?_
      refine lv_bipush (v := 6) hx hb dX3_init_25 (by decide) ?_
      refine lv_icmp_ge (tgt := 49) hx hb dX3_init_27 (by decide) (fun c7 => absurd c7 (nI_ge (b := 6) hk6 (by decide))) (fun c7 => ?_)
      refine lv_aload_n hx hb dX3_init_30 rfl (lv_at hl 1 rfl) ?_
      refine va_get (D := G.1) (ci := 5) (v := .ref (a + 1)) (C := RX3) (T := TX3) (N := 5) hx hb hts (fun w9 h9 => List.mem_cons_of_mem _ (List.mem_append_left _ (List.mem_append_left _ (List.mem_append_right _ (h9))))) hown hK hP (0) (qw_at0 (by omega)) rfl 0 (by decide) (hts (.fieldLink RX3 11 "OrganCensus$Town" "streets" "[LOrganCensus$Street;") (List.mem_of_getElem? (i := 5) rfl)) (fun _ h9 => h9) rfl dX3_init_31 ?_
      refine lv_iload_n hx hb dX3_init_34 rfl (lv_at hl 0 rfl) ?_
      refine k_newC (N := 3 + 4 * k) (ci := 4) (C := RX2) (T := TX2) (n := 6) hx hb hts (fun w9 h9 => List.mem_cons_of_mem _ (List.mem_append_left _ (List.mem_append_right _ (h9)))) tyX2 tyX2_ok hown (hts (.classLink RX3 9 RX2) (List.mem_of_getElem? (i := 4) rfl)) (hts (.instantiable RX2 6) (List.mem_of_getElem? (i := 8) rfl)) (hts (.initialized RX2) (List.mem_of_getElem? (i := 9) rfl)) hK hP hz hS rfl (fs := [.null, .null, .null, .int 0, .int 0, .int 0]) (by decide +kernel) (show 2 + 4 * k + 1 ≤ 66 by omega) (show 14 + 42 * k + 6 ≤ 570 by omega) dX3_init_35 (fun H hP hPn hz hS => ?_)
      refine lv_dup hx hb dX3_init_38 rfl ?_
      refine k_call (b := a + (3 + 4 * k)) (N := 3 + 4 * k) [] [.ref (a + (3 + 4 * k)), .int (nI k), .ref (a + 1)] ⟨hx, hb, hml, hown, hts⟩ (m_X2_init l G (a + (3 + 4 * k))) (cwI 0 hts gX3_init_X2_init rfl rfl rfl (hts (.initialized RX2) (List.mem_of_getElem? (i := 9) rfl)) (hts (.methodLink RX3 23 yX2_init) (List.mem_of_getElem? (i := 12) rfl)) (hts (.instanceMethod yX2_init) (List.mem_of_getElem? (i := 13) rfl)) rfl (by decide +kernel) ⟨(Nat.le_of_ble_eq_true rfl), (Nat.le_of_ble_eq_true rfl)⟩) hK hN h2 h0 hP hPn hz rfl rfl hS rfl hl.1 rfl (Nat.le_of_ble_eq_true rfl) dX3_init_39 ⟨(show 2 + 4 * k + 1 + 3 ≤ 66 by omega), (show 14 + 42 * k + 6 + 36 ≤ 570 by omega)⟩ (fun H locs hPj hP hz9 hS => ?_)
      have hP : va_P G.1 vwCl (qw a (3 + 4 * k + 4) (o0 5 (X3s a) (X3F G a k 0))) H := qw_join (N := 3 + 4 * k) (M := 4) hP hPj (fun j hj => (X3F_S G a _ _ _ hk6 hj).symm)
      have hz : H.size = a + (3 + 4 * k + 4) := by have h9 := (hP (3 + 4 * k + 3) _ (wl_at (by omega) rfl)).lt; simp only [ga] at h9; omega
      refine va_astq (v := a + (3 + 4 * k)) (vs := X2s (a + (3 + 4 * k))) hx hb hK hP (qw_D a _ _) (sS_here hS) 1 1 (3 + 4 * k) 4 (a := ga a 1) (cA := G.2.2 1) (n := 6) (f := X3R (a + 3) 4 k) (wl_at (by omega) rfl) rfl (wl_at (by omega) (X3F_S G a _ _ _ (q := 0) hk6 (by decide))) rfl (vp_in_nI hk6 (by decide)) dX3_init_42 (fun H1 locs1 hP _ h3 => o_ub fun h4 => ?_)
      rw [X3F_set1 G a _ _ _ _ (by omega)] at hP
      have hz : H1.size = a + (3 + 4 * k + 4) := by have h9 := h3.1; omega
      have hS := sS_on hS h3
      refine lv_iinc (v := nI (k + 1)) (lv' := [(1, .int (nI (k + 1))), (0, .ref a)]) hx hb dX3_init_43 hl (k := 0) rfl (nI_1 k) (by decide) rfl (fun ls hl => ?_)
      refine lv_goto (tgt := 24) hx hb dX3_init_46 (by decide) ?_
      exact ih (k + 1) (by omega) H1 locs1 hP hz hS ls (lv_sub hl [0, 1] rfl)
  refine lv_aload_n hx hb dX3_init_0 rfl (lv_at hl 0 rfl) ?_
  refine W.objInit hx hb hown (hts (.methodLink RX3 3 objectInit) (List.mem_of_getElem? (i := 1) rfl)) (hts (.instanceMethod objectInit) (List.mem_of_getElem? (i := 2) rfl)) (hts (.code objectInit ⟨#[0xb1]⟩ 1 none) (List.mem_of_getElem? (i := 3) rfl)) rfl (by rw [hml]; exact hl.1) rfl dX3_init_1 (Nat.le_of_ble_eq_true rfl) (Nat.le_of_ble_eq_true rfl) ?_
  change W _ _ _ _ _ _ _ _ _ _ _ _ _ _ _ (F0 m 4 ls [])
  refine lv_aload_n hx hb dX3_init_4 rfl (lv_at hl 0 rfl) ?_
  refine lv_bipush (v := 6) hx hb dX3_init_5 (by decide) ?_
  refine k_newR (N := 1) hx hb hown (hts (.classLink RX3 9 RX2) (List.mem_of_getElem? (i := 4) rfl)) h2 hK hP hz hS 1 rfl (N' := 6) (by rw [o0, if_neg (by decide), X3F, if_pos (by decide)]; show Sum.inl _ = _; rw [X3R_0]) (by decide) (by decide) (Nat.le_of_ble_eq_true rfl) (Nat.le_of_ble_eq_true rfl) (Nat.le_of_ble_eq_true rfl) dX3_init_7 (fun H hP hz hS => ?_)
  refine k_put (ci := 5) (N := 2) (v := .ref (a + 1)) (ty := .array (.object "OrganCensus$Street")) (C := RX3) (T := TX3) (n := 5) hin hx hb hts (fun w9 h9 => List.mem_cons_of_mem _ (List.mem_append_left _ (List.mem_append_left _ (List.mem_append_right _ (h9))))) tyX3 tyX3_ok nmX3 hown hK hP hz (by decide) (by omega) hS rfl 0 (by decide) (hts (.fieldLink RX3 11 "OrganCensus$Town" "streets" "[LOrganCensus$Street;") (List.mem_of_getElem? (i := 5) rfl)) (fun _ h9 => h9) rfl rfl (by decide +kernel) rfl rfl (Nat.le_of_ble_eq_true rfl) dX3_init_10 (fun H locs hP hz hS => ?_)
  have hP : va_P G.1 vwCl (qw a 2 (o0 5 [.ref (a + 1), .null, .int 0, .int 0, .int 0] (X3F G a 0 0))) H := hP
  refine lv_aload_n hx hb dX3_init_13 rfl (lv_at hl 0 rfl) ?_
  refine lv_bipush (v := 8) hx hb dX3_init_14 (by decide) ?_
  refine k_newR (N := 2) hx hb hown (hts (.classLink RX3 17 RX0) (List.mem_of_getElem? (i := 6) rfl)) h0 hK hP hz hS 2 rfl (N' := 8) (by rw [o0, if_neg (by decide), X3F, if_pos (by decide)]; show Sum.inl _ = _; rw [X3R_0]) (by decide) (by decide) (Nat.le_of_ble_eq_true rfl) (Nat.le_of_ble_eq_true rfl) (Nat.le_of_ble_eq_true rfl) dX3_init_16 (fun H hP hz hS => ?_)
  refine k_put (ci := 5) (N := 3) (v := .ref (a + 2)) (ty := .array (.object "OrganCensus$Organ")) (C := RX3) (T := TX3) (n := 5) hin hx hb hts (fun w9 h9 => List.mem_cons_of_mem _ (List.mem_append_left _ (List.mem_append_left _ (List.mem_append_right _ (h9))))) tyX3 tyX3_ok nmX3 hown hK hP hz (by decide) (by omega) hS rfl 1 (by decide) (hts (.fieldLink RX3 19 "OrganCensus$Town" "organs" "[LOrganCensus$Organ;") (List.mem_of_getElem? (i := 7) rfl)) (fun _ h9 => h9) rfl rfl (by decide +kernel) rfl rfl (Nat.le_of_ble_eq_true rfl) dX3_init_19 (fun H locs hP hz hS => ?_)
  have hP : va_P G.1 vwCl (qw a 3 (o0 5 [.ref (a + 1), .ref (a + 2), .int 0, .int 0, .int 0] (X3F G a 0 0))) H := hP
  refine lv_iconst (v := 0) hx hb dX3_init_22 (by decide) ?_
  refine lv_istore_n (lv' := [(1, .int (nI 0)), (0, .ref a)]) hx hb dX3_init_23 rfl hl (by decide) rfl (fun ls hl => ?_)
  exact lp1 6 0 (by omega) _ _ hP hz hS ls hl
