/-! Arrays.fill, and the reference's own copy: over any world. -/
def o_fl (f : Nat → Int32) (x : Int32) (k : Nat) : Nat → Int32 := fun j => if j < k then x else f j
theorem o_fl_0 (f : Nat → Int32) (x : Int32) : o_fl f x 0 = f := by funext j; simp [o_fl]
theorem o_fl_s (f : Nat → Int32) (x : Int32) (k : Nat) : upd (o_fl f x k) k x = o_fl f x (k + 1) := by
  funext j
  by_cases h : j = k
  · subst h; simp [o_fl, upd]
  · by_cases h2 : j < k
    · simp [o_fl, upd, h, h2, Nat.lt_succ_of_lt h2]
    · simp [o_fl, upd, h, h2, show ¬ j < k + 1 by omega]
theorem o_set_at {wd : va_W} {q : Nat} {e e' : Nat × va_E} (h : wd[q]? = some e') : (wd.set q e)[q]? = some e := List.getElem?_set_self (List.getElem?_eq_some_iff.mp h).1
theorem o_set_self {wd : va_W} {q : Nat} {e : Nat × va_E} (h : wd[q]? = some e) : wd.set q e = wd := by
  obtain ⟨h1, h2⟩ := List.getElem?_eq_some_iff.mp h
  rw [← h2]
  exact List.set_getElem_self h1
set_option maxHeartbeats 4000000 in
set_option maxRecDepth 100000 in
theorem m_J7_fill (l : Launch) (G : oG) (wd : va_W) (A : Nat → Prop) {q a n : Nat} {f : Nat → Int32} (x : Int32) (ha : wd[q]? = some (a, .inl (G.2.2 0, n, .inl f))) (hn : n < 2 ^ 31) (hD : va_D A wd) : Met l yJ7_fill_53178 wsJ7_fill_53178 ({ frames := 0, cells := 0, slots := 0, locals := 0 } : Room) (va_Pc [.ref a, .int x] (PW G wd)) (oQ none (fun H9 => va_P G.1 vwCl (wd.set q (a, .inl (G.2.2 0, n, .inl (o_fl f x n)))) H9) A) 0 0 A := by
  refine o_bodyF (cc := cJ7_fill_53178) (by decide +kernel) rfl (Nat.le_of_ble_eq_true rfl) ?_
  intro p e s m below meth c ls hx hb hml hr hlocks hown hts hP hK hN hl
  have hl : lv_has ls 4 [(0, .ref a), (1, .int x)] := hl
  have hS : va_S A s.heap s.heap [] := va_S.rf
  refine lv_iconst (v := 0) hx hb dJ7_fill_53178_0 (by decide) ?_
  refine lv_istore_n (lv' := [(2, .int 0), (0, .ref a), (1, .int x)]) hx hb dJ7_fill_53178_1 rfl hl (by decide) rfl (fun ls hl => ?_)
  refine lv_aload_n hx hb dJ7_fill_53178_2 rfl (lv_at hl 1 rfl) ?_
  refine va_alen (v := nI n) hx hb hK hP q 0 ha rfl rfl dJ7_fill_53178_3 ?_
  refine lv_istore_n (lv' := [(3, .int (nI n)), (2, .int 0), (0, .ref a), (1, .int x)]) hx hb dJ7_fill_53178_4 rfl hl (by decide) rfl (fun ls hl => ?_)
  have lp : ∀ (d k : Nat), k + d = n → ∀ (H : Heap) (locs : List Loc), va_P G.1 vwCl (wd.set q (a, .inl (G.2.2 0, n, .inl (o_fl f x k)))) H → va_S A s.heap H locs → ∀ ls : Array Slot, lv_has ls 4 [(3, .int (nI n)), (2, .int (nI k)), (0, .ref a), (1, .int x)] → W p l e ({ frames := 0, cells := 0, slots := 0, locals := 0 } : Room) s m ([.ref a, .int x] : List Value).toArray below meth c H locs 0 0 (MQ below (oQ none (fun H9 => va_P G.1 vwCl (wd.set q (a, .inl (G.2.2 0, n, .inl (o_fl f x n)))) H9) A) ([.ref a, .int x] : List Value).toArray s 0 0 A) (F0 m 5 ls []) := by
    intro d
    induction d with
    | zero =>
      intro k hk H locs hP hS ls hl
      have hk : k = n := by omega
      subst hk
      refine lv_iload_n hx hb dJ7_fill_53178_5 rfl (lv_at hl 1 rfl) ?_
      refine lv_iload_n hx hb dJ7_fill_53178_6 rfl (lv_at hl 0 rfl) ?_
      refine lv_icmp_ge (tgt := 20) hx hb dJ7_fill_53178_7 (by decide) (fun c7 => ?_) (fun c7 => ?_)
      · exact o_vretM hx hb hr hlocks hS dJ7_fill_53178_20 hP
      · exact absurd (Int32.le_refl _) c7
    | succ d ih =>
      intro k hk H locs hP hS ls hl
      have hj : k < n := by omega
      refine lv_iload_n hx hb dJ7_fill_53178_5 rfl (lv_at hl 1 rfl) ?_
      refine lv_iload_n hx hb dJ7_fill_53178_6 rfl (lv_at hl 0 rfl) ?_
      refine lv_icmp_ge (tgt := 20) hx hb dJ7_fill_53178_7 (by decide) (fun c7 => ?_) (fun c7 => ?_)
      · exact absurd c7 (nI_ge hj hn)
      · refine lv_aload_n hx hb dJ7_fill_53178_10 rfl (lv_at hl 2 rfl) ?_
        refine lv_iload_n hx hb dJ7_fill_53178_11 rfl (lv_at hl 1 rfl) ?_
        refine lv_iload_n hx hb dJ7_fill_53178_12 rfl (lv_at hl 3 rfl) ?_
        refine o_iast (k := k) hx hb hK hP (hD.set ha) hS q 0 (o_set_at ha) rfl rfl hj hn dJ7_fill_53178_13 (fun H locs hP _ hS => ?_)
        rw [List.set_set, o_fl_s] at hP
        refine lv_iinc (v := nI (k + 1)) (lv' := [(2, .int (nI (k + 1))), (3, .int (nI n)), (0, .ref a), (1, .int x)]) hx hb dJ7_fill_53178_14 hl (k := 1) rfl (nI_1 k) (by decide) rfl (fun ls hl => ?_)
        refine lv_goto (tgt := 5) hx hb dJ7_fill_53178_17 (by decide) ?_
        exact ih (k + 1) (by omega) _ _ hP hS ls (lv_sub hl [1, 0, 2, 3] rfl)
  exact lp n 0 (by omega) _ _ (by rw [o_fl_0, o_set_self ha]; exact hP) hS ls hl
set_option maxHeartbeats 4000000 in
set_option maxRecDepth 100000 in
theorem m_X5_copy (l : Launch) (G : oG) (wd : va_W) (A : Nat → Prop) (b : Nat) {q0 q1 a0 a1 n : Nat} {f g : Nat → Int32} (ha0 : wd[q0]? = some (a0, .inl (G.2.2 0, n, .inl f))) (ha1 : wd[q1]? = some (a1, .inl (G.2.2 0, n, .inl g))) (hn : n < 2 ^ 31) (hD : va_D A wd) : Met l yX5_copy wsX5_copy ({ frames := 1, cells := 0, slots := 0, locals := 60 } : Room) (va_Pc [.ref b, .ref a0, .ref a1] (PW G wd)) (oQ none (fun H9 => va_P G.1 vwCl (wd.set q1 (a1, .inl (G.2.2 0, n, .inl (va_cpy f g 0 0 n)))) H9) A) 0 0 A := by
  refine o_body (cc := cX5_copy) (by decide +kernel) rfl (Nat.le_of_ble_eq_true rfl) ?_
  intro p e s m below meth c ls hx hb hml hr hlocks hown hts hP hK hN hl
  have hown : s.vm.findClass RX5 = some m.cls := hown
  have hl : lv_has ls 3 [(0, .ref b), (1, .ref a0), (2, .ref a1)] := hl
  have hS : va_S A s.heap s.heap [] := va_S.rf
  refine lv_aload_n hx hb dX5_copy_0 rfl (lv_at hl 1 rfl) ?_
  refine lv_iconst (v := 0) hx hb dX5_copy_1 (by decide) ?_
  refine lv_aload_n hx hb dX5_copy_2 rfl (lv_at hl 2 rfl) ?_
  refine lv_iconst (v := 0) hx hb dX5_copy_3 (by decide) ?_
  refine lv_aload_n hx hb dX5_copy_4 rfl (lv_at hl 1 rfl) ?_
  refine va_alen (v := nI n) hx hb hK hP q0 0 ha0 rfl rfl dX5_copy_5 ?_
  refine o_copyi (n := n) (rest := []) hx hb (hml.trans hl.1.symm) hown (hts (.methodLink RX5 68 arraycopyName) (List.mem_of_getElem? (i := 1) rfl)) (hts (.native arraycopyName) (List.mem_of_getElem? (i := 2) rfl)) (hts (.static arraycopyName) (List.mem_of_getElem? (i := 3) rfl)) (hts (.initialized "java/lang/System") (List.mem_of_getElem? (i := 4) rfl)) hK hP hD hS q0 q1 0 ha0 ha1 rfl rfl hn (Nat.le_refl n) (Nat.le_refl n) (Nat.le_of_ble_eq_true rfl) (Nat.le_of_ble_eq_true rfl) dX5_copy_6 (fun H locs hP _ hS => ?_)
  exact o_vretM hx hb hr hlocks hS dX5_copy_9 hP
/-! ### barrels laid, towns copied -/
theorem su_su (τ : oT) (k i j : Nat) (x y : Int32) : su (su τ k i j x) k i j y = su τ k i j y := by
  funext a b c
  by_cases ha : a = k
  · subst ha
    by_cases hb : b = i
    · subst hb
      by_cases hc : c = j <;> simp [su, hc]
    · simp [su, hb]
  · simp [su, ha]
def oPt (τ : oT) (i b : Nat) : Nat → oT
  | 0 => τ
  | k + 1 => su (oPt τ i b k) 6 i (oDg b - k - 1) (o_rem (nI (b / 10 ^ k)) 10 - 1)
def oPutB (τ : oT) (i b : Nat) : oT := sw (su (oPt (su (su τ 15 i 0 (nI b)) 16 i 0 (nI (oDg b))) i b (oDg b)) 17 i 0 0) 7 i (o_fl (su (oPt (su (su τ 15 i 0 (nI b)) 16 i 0 (nI (oDg b))) i b (oDg b)) 17 i 0 0 7 i) 0 6)
theorem oPt_k (τ : oT) (i b : Nat) {a : Nat} (h : a ≠ 6) : ∀ k, oPt τ i b k a = τ a
  | 0 => rfl
  | k + 1 => (su_k _ _ _ _ h).trans (oPt_k τ i b h k)
theorem oPutB_k (τ : oT) (i b : Nat) {a : Nat} (h : a ≠ 6 ∧ a ≠ 7 ∧ a ≠ 15 ∧ a ≠ 16 ∧ a ≠ 17) : oPutB τ i b a = τ a := by
  unfold oPutB
  rw [sw_k _ _ _ h.2.1, su_k _ _ _ _ h.2.2.2.2, oPt_k _ _ _ h.1, su_k _ _ _ _ h.2.2.2.1, su_k _ _ _ _ h.2.2.1]
theorem oPutB_18 (τ : oT) (i b : Nat) : oPutB τ i b 18 = τ 18 := oPutB_k τ i b (by decide)
theorem oVB_1 : oVB 1 := ⟨by decide, by decide, fun k hk => by
  have h : k < 1 := by
    have : oDg 1 = 1 := by decide
    omega
  rw [show k = 0 by omega]
  decide⟩
def oSz2 (τ : oT) (nS nO : Nat) : Prop := τ 18 0 0 = nI nS ∧ nS ≤ 6 ∧ τ 18 0 1 = nI nO ∧ nO ≤ 8
theorem oSz2.of {σ τ : oT} {nS nO : Nat} (h : oSz2 τ nS nO) (hk : σ 18 = τ 18) : oSz2 σ nS nO := by
  unfold oSz2 at *
  rw [hk]
  exact h
def oCpS (τ υ : oT) (r : Nat) : oT := su (su (su (sw (sw (sw τ 0 r (va_cpy (υ 0 r) (τ 0 r) 0 0 24)) 1 r (va_cpy (υ 1 r) (sw τ 0 r (va_cpy (υ 0 r) (τ 0 r) 0 0 24) 1 r) 0 0 6)) 2 r (va_cpy (υ 2 r) (sw (sw τ 0 r (va_cpy (υ 0 r) (τ 0 r) 0 0 24)) 1 r (va_cpy (υ 1 r) (sw τ 0 r (va_cpy (υ 0 r) (τ 0 r) 0 0 24) 1 r) 0 0 6) 2 r) 0 0 6)) 3 r 0 (υ 3 r 0)) 4 r 0 (υ 4 r 0)) 5 r 0 (υ 5 r 0)
def oCpO1 (τ υ : oT) (i : Nat) : oT := sw τ 6 i (va_cpy (υ 6 i) (τ 6 i) 0 0 8)
def oCpO2 (τ υ : oT) (i : Nat) : oT := sw (oCpO1 τ υ i) 7 i (va_cpy (υ 7 i) (oCpO1 τ υ i 7 i) 0 0 6)
def oCpO3 (τ υ : oT) (i : Nat) : oT := sw (oCpO2 τ υ i) 8 i (va_cpy (υ 8 i) (oCpO2 τ υ i 8 i) 0 0 6)
def oCpO4 (τ υ : oT) (i : Nat) : oT := sw (oCpO3 τ υ i) 9 i (va_cpy (υ 9 i) (oCpO3 τ υ i 9 i) 0 0 6)
def oCpO (τ υ : oT) (i : Nat) : oT := su (su (su (su (su (su (su (su (oCpO4 τ υ i) 10 i 0 (υ 10 i 0)) 11 i 0 (υ 11 i 0)) 12 i 0 (υ 12 i 0)) 13 i 0 (υ 13 i 0)) 14 i 0 (υ 14 i 0)) 15 i 0 (υ 15 i 0)) 16 i 0 (υ 16 i 0)) 17 i 0 (υ 17 i 0)
def oCp0 (τ υ : oT) : oT := su (su (su τ 18 0 0 (υ 18 0 0)) 18 0 1 (υ 18 0 1)) 18 0 2 (υ 18 0 2)
theorem oCp0_sz {τ υ : oT} {nS nO : Nat} (h : oSz2 υ nS nO) : oSz2 (oCp0 τ υ) nS nO := by
  obtain ⟨a, b, c, d⟩ := h
  refine ⟨?_, b, ?_, d⟩
  · rw [← a]; simp [oCp0, su]
  · rw [← c]; simp [oCp0, su]
def oCpSs (τ υ : oT) : Nat → oT
  | 0 => τ
  | k + 1 => oCpS (oCpSs τ υ k) υ k
def oCpOs (τ υ : oT) : Nat → oT
  | 0 => τ
  | k + 1 => oCpO (oCpOs τ υ k) υ k
theorem oCpSs_18 (τ υ : oT) : ∀ k, oCpSs τ υ k 18 = τ 18
  | 0 => rfl
  | k + 1 => by
    rw [← oCpSs_18 τ υ k]
    show oCpS _ _ _ 18 = _
    unfold oCpS
    rw [su_k _ _ _ _ (by decide), su_k _ _ _ _ (by decide), su_k _ _ _ _ (by decide), sw_k _ _ _ (by decide), sw_k _ _ _ (by decide), sw_k _ _ _ (by decide)]
theorem oCpOs_18 (τ υ : oT) : ∀ k, oCpOs τ υ k 18 = τ 18
  | 0 => rfl
  | k + 1 => by
    rw [← oCpOs_18 τ υ k]
    show oCpO _ _ _ 18 = _
    unfold oCpO oCpO4 oCpO3 oCpO2 oCpO1
    rw [su_k _ _ _ _ (by decide), su_k _ _ _ _ (by decide), su_k _ _ _ _ (by decide), su_k _ _ _ _ (by decide), su_k _ _ _ _ (by decide), su_k _ _ _ _ (by decide), su_k _ _ _ _ (by decide), su_k _ _ _ _ (by decide), sw_k _ _ _ (by decide), sw_k _ _ _ (by decide), sw_k _ _ _ (by decide), sw_k _ _ _ (by decide)]
def oCpT (τ υ : oT) (nS nO : Nat) : oT := oCpOs (oCpSs (oCp0 τ υ) υ nS) υ nO
