/-! The papers: what the class's census writes, the reference's writes too -/
def pB (γ : oT) (n : Nat) (g : Nat → Int32) : Prop := γ 0 0 0 = nI n ∧ n ≤ 320 ∧ ∀ j, j < n → γ 1 0 j = g j
theorem pB.of {γ : oT} {n : Nat} {g g' : Nat → Int32} (h : pB γ n g) (e : ∀ j, j < n → g' j = g j) : pB γ n g' := ⟨h.1, h.2.1, fun j hj => (h.2.2 j hj).trans (e j hj).symm⟩
theorem pB.w {γ : oT} {n : Nat} {g : Nat → Int32} {x : Int32} (h : pB γ n g) (hn : n < 320) (hg : g n = x) (hx : x.toInt8.toInt32 = x) : pB (pW γ x) (n + 1) g := by
  obtain ⟨h1, h2, h3⟩ := h
  have e : oN (γ 0 0 0) = n := by rw [h1, oN_nI (by omega)]
  unfold pW
  rw [e, if_pos hn, hx]
  refine ⟨su_s _ _ _ _ _, by omega, fun j hj => ?_⟩
  rw [su_k _ _ _ _ (by decide)]
  by_cases q : j = n
  · subst q; rw [su_s, hg]
  · rw [su_j _ _ _ _ q]; exact h3 j (by omega)
theorem dgt_b (u p : Nat) : (dgt u p).toInt8.toInt32 = dgt u p ∧ oCh (dgt u p) = dgt u p := by
  have : ∀ d, d < 10 → (nI (48 + d)).toInt8.toInt32 = nI (48 + d) ∧ oCh (nI (48 + d)) = nI (48 + d) := by decide +kernel
  exact this _ (Nat.mod_lt _ (by decide))
theorem sD_o (v : Nat) : oDg v - 1 + 1 = sD v := by
  unfold sD
  by_cases h : v = 0
  · subst h; rfl
  · rw [if_neg h]
    have := sD_pos v
    unfold sD at this
    rw [if_neg h] at this
    omega
theorem pB.num {γ : oT} {n v : Nat} {g : Nat → Int32} (h : pB γ n g) (hn : n + sD v ≤ 320) (hg : ∀ j, j < sD v → g (n + j) = dgt v (sD v - 1 - j)) : pB (kNum γ v) (n + sD v) g := by
  have hs := sD_o v
  have main : ∀ k, k ≤ sD v → pB (kWN γ v (oDg v - 1) k) (n + k) g := fun k => by
    induction k with
    | zero => intro _; exact h
    | succ k ih =>
      intro hk
      have e : nI (48 + v / kPw (oDg v - 1) k % 10) = dgt v (sD v - 1 - k) := by
        unfold kPw dgt
        rw [if_pos (by omega), show oDg v - 1 - k = sD v - 1 - k by omega]
      rw [kWN, e]
      exact (ih (by omega)).w (by omega) (hg k (by omega)) (dgt_b _ _).1
  unfold kNum
  rw [hs]
  exact main _ (Nat.le_refl _)
theorem dA_in {f : Nat → Int32} {n u j : Nat} (h : n ≤ j) (h2 : j < n + sD u) : dA f n u j = dgt u (n + sD u - 1 - j) := by
  unfold dA dP
  rw [if_pos ⟨by omega, h2⟩]
theorem dA_out {f : Nat → Int32} {n u j : Nat} (h : j < n) : dA f n u j = f j := by
  unfold dA dP
  rw [if_neg (by omega)]
theorem lnS_at {t : Nat → Int32} {a b c : Nat} (ht : t 0 = 32) : (∀ j, j < sD a → lnS t a b c j = dgt a (sD a - 1 - j)) ∧ lnS t a b c (sD a) = 32 ∧ (∀ j, j < sD b → lnS t a b c (sD a + 1 + j) = dgt b (sD b - 1 - j)) ∧ lnS t a b c (sD a + 1 + sD b) = 32 ∧ ∀ j, j < sD c → lnS t a b c (sD a + 1 + sD b + 1 + j) = dgt c (sD c - 1 - j) := by
  have e : ∀ j, j < sD a + 1 + sD b + 1 + sD c → lnS t a b c j = lnT t a b c j := fun j hj => cpy0 (by unfold lnN; omega)
  have ha := sD_pos a
  have hb := sD_pos b
  have hc := sD_pos c
  refine ⟨fun j hj => ?_, ?_, fun j hj => ?_, ?_, fun j hj => ?_⟩
  · rw [e _ (by omega), lnT, dA_out (by omega), pk_cpy_out (by omega), dA_out (by omega), pk_cpy_out (by omega), dA_in (by omega) (by omega)]
    congr 1; omega
  · rw [e _ (by omega), lnT, dA_out (by omega), pk_cpy_out (by omega), dA_out (by omega), pk_cpy_in (by omega) (by omega), show 0 + (sD a - (0 + sD a)) = 0 by omega, ht]
  · rw [e _ (by omega), lnT, dA_out (by omega), pk_cpy_out (by omega), dA_in (by omega) (by omega)]
    congr 1; omega
  · rw [e _ (by omega), lnT, dA_out (by omega), pk_cpy_in (by omega) (by omega), show 0 + (sD a + 1 + sD b - (0 + sD a + 1 + sD b)) = 0 by omega, ht]
  · rw [e _ (by omega), lnT, dA_in (by omega) (by omega)]
    congr 1; omega
theorem pB.line {γ : oT} {n a b c : Nat} {g t : Nat → Int32} (ht : t 0 = 32) (h : pB γ n g) (hn : n + lnN a b c + 1 ≤ 320) (hg : ∀ j, j < lnN a b c → g (n + j) = oCh (lnS t a b c j)) (h10 : g (n + lnN a b c) = 10) : pB (kLine γ a b c) (n + lnN a b c + 1) g := by
  obtain ⟨l1, l2, l3, l4, l5⟩ := lnS_at (a := a) (b := b) (c := c) ht
  have hl : lnN a b c = sD a + 1 + sD b + 1 + sD c := by unfold lnN; omega
  rw [hl] at hn hg h10 ⊢
  have k1 : pB (kNum γ a) (n + sD a) g := h.num (by omega) (fun j hj => by rw [hg j (by omega), l1 j hj, (dgt_b _ _).2])
  have k2 := k1.w (x := 32) (by omega) (by rw [hg _ (by omega), l2]; decide +kernel) (by decide)
  have k3 : pB (kNum (pW (kNum γ a) 32) b) (n + sD a + 1 + sD b) g := k2.num (by omega) (fun j hj => by rw [show n + sD a + 1 + j = n + (sD a + 1 + j) by omega, hg _ (by omega), l3 j hj, (dgt_b _ _).2])
  have k4 := k3.w (x := 32) (by omega) (by rw [show n + sD a + 1 + sD b = n + (sD a + 1 + sD b) by omega, hg _ (by omega), l4]; decide +kernel) (by decide)
  have k5 : pB (kNum (pW (kNum (pW (kNum γ a) 32) b) 32) c) (n + sD a + 1 + sD b + 1 + sD c) g := k4.num (by omega) (fun j hj => by rw [show n + sD a + 1 + sD b + 1 + j = n + (sD a + 1 + sD b + 1 + j) by omega, hg _ (by omega), l5 j hj, (dgt_b _ _).2])
  have k6 := k5.w (x := 10) (by omega) (by rw [show n + sD a + 1 + sD b + 1 + sD c = n + (sD a + 1 + sD b + 1 + sD c) by omega]; exact h10) (by decide)
  rw [show n + (sD a + 1 + sD b + 1 + sD c) + 1 = n + sD a + 1 + sD b + 1 + sD c + 1 by omega]
  exact k6
/-! the reference's bytes -/
theorem mWr_at (γ : oT) (nP : Nat) (f : Nat → Int32) : ∀ k j, mWr γ nP f k 43 0 j = if nP ≤ j ∧ j < nP + k then oCh (f (j - nP)) else γ 43 0 j
  | 0, j => by rw [if_neg (by omega)]; rfl
  | k + 1, j => by
    rw [mWr, su_k _ _ _ _ (by decide)]
    by_cases q : j = nP + k
    · subst q
      rw [su_s, if_pos (by omega), show nP + k - nP = k by omega]
    · rw [su_j _ _ _ _ q, mWr_at γ nP f k j]
      by_cases c : nP ≤ j ∧ j < nP + k
      · rw [if_pos c, if_pos (by omega)]
      · rw [if_neg c, if_neg (by omega)]
theorem mWrT_at (γ : oT) (nP n : Nat) (f : Nat → Int32) (j : Nat) : mWrT γ nP n f 43 0 j = if nP ≤ j ∧ j < nP + n then oCh (f (j - nP)) else if j = nP + n then 10 else γ 43 0 j := by
  unfold mWrT
  rw [su_k _ _ _ _ (by decide)]
  by_cases q : j = nP + n
  · subst q
    rw [su_s, if_neg (by omega), if_pos rfl]
  · rw [su_j _ _ _ _ q, mWr_at, if_neg q]
theorem mWr_k (γ : oT) (nP : Nat) (f : Nat → Int32) {a : Nat} (h : a ≠ 43) (h' : a ≠ 41) : ∀ k, mWr γ nP f k a = γ a
  | 0 => rfl
  | k + 1 => by rw [mWr, su_k _ _ _ _ h', su_k _ _ _ _ h, mWr_k γ nP f h h' k]
theorem mWrT_k (γ : oT) (nP n : Nat) (f : Nat → Int32) {a : Nat} (h : a ≠ 43) (h' : a ≠ 41) : mWrT γ nP n f a = γ a := by
  unfold mWrT
  rw [su_k _ _ _ _ h', su_k _ _ _ _ h, mWr_k _ _ _ h h']
theorem pB.text {γ δ : oT} {nP n : Nat} {f : Nat → Int32} (h : pB γ nP (δ 43 0)) (hn : nP + n + 1 ≤ 320) (hf : ∀ k, k < n → (oCh (f k)).toInt8.toInt32 = oCh (f k)) : pB (pW (kText γ f n) 10) (nP + n + 1) (mWrT δ nP n f 43 0) := by
  have h0 : pB γ nP (mWrT δ nP n f 43 0) := h.of (fun j hj => by rw [mWrT_at, if_neg (by omega), if_neg (by omega)])
  have main : ∀ k, k ≤ n → pB (kText γ f k) (nP + k) (mWrT δ nP n f 43 0) := fun k => by
    induction k with
    | zero => intro _; exact h0
    | succ k ih =>
      intro hk
      rw [kText]
      exact (ih (by omega)).w (by omega) (by rw [mWrT_at, if_pos (by omega), show nP + k - nP = k by omega]) (hf k (by omega))
  exact (main n (Nat.le_refl _)).w (by omega) (by rw [mWrT_at, if_neg (by omega), if_pos rfl]) (by decide)
theorem pB.mline {γ : oT} {A : oT × Nat} {t : Nat → Int32} {a b c : Nat} (ht : t 0 = 32) (h : pB γ A.2 (A.1 43 0)) (hn : A.2 + lnN a b c + 1 ≤ 320) : pB (kLine γ a b c) (mLine t A a b c).2 ((mLine t A a b c).1 43 0) := by
  show pB (kLine γ a b c) (A.2 + lnN a b c + 1) (mWrT A.1 A.2 (lnN a b c) (lnS t a b c) 43 0)
  refine pB.line ht (h.of (fun j hj => ?_)) hn (fun j hj => ?_) ?_
  · rw [mWrT_at, if_neg (by omega), if_neg (by omega)]
  · rw [mWrT_at, if_pos (by omega), show A.2 + j - A.2 = j by omega]
  · rw [mWrT_at, if_neg (by omega), if_pos rfl]
