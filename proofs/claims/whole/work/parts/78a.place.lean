/-! An organ stands at a street below 6, a pitch below 20 -/
def rQ1 (τ : oT) (i : Nat) : Prop := ∃ s p, s < 6 ∧ p < 20 ∧ τ 10 i 0 = nI s ∧ τ 11 i 0 = nI p
def oKQ (σ τ : oT) : Prop := ∀ i, rQ1 τ i → rQ1 σ i
theorem oKQ.rf (τ : oT) : oKQ τ τ := fun _ h => h
theorem oKQ.tr {a b c : oT} (h : oKQ a b) (h' : oKQ b c) : oKQ a c := fun i hi => h i (h' i hi)
theorem oKQ.su (τ : oT) {k : Nat} (i j : Nat) (x : Int32) (h : 10 ≠ k) (h' : 11 ≠ k) : oKQ (su τ k i j x) τ := fun i hi => by
  unfold rQ1 at hi ⊢
  rw [su_k _ _ _ _ h, su_k _ _ _ _ h']
  exact hi
theorem oKQ.ite {c : Prop} [Decidable c] {a b τ : oT} (h : oKQ a τ) (h' : oKQ b τ) : oKQ (if c then a else b) τ := by
  by_cases hc : c
  · rw [if_pos hc]; exact h
  · rw [if_neg hc]; exact h'
theorem oMove_q (τ : oT) (i : Nat) {a b c : Int32} {s p : Nat} (hs : s < 6) (hp : p < 20) (ha : a = nI s) (hb : b = nI p) : oKQ (oMove τ i a b c) τ := fun j hj => by
  obtain ⟨s', p', h1, h2, h3, h4⟩ := hj
  by_cases e : j = i
  · subst e
    refine ⟨s, p, hs, hp, ?_, ?_⟩
    · rw [← ha]; simp [oMove, su]
    · rw [← hb]; simp [oMove, su]
  · refine ⟨s', p', h1, h2, ?_, ?_⟩
    · rw [← h3]; simp [oMove, su, e]
    · rw [← h4]; simp [oMove, su, e]
theorem oMove_qi (τ : oT) (i : Nat) {a b c : Int32} {s p : Nat} (hs : s < 6) (hp : p < 20) (ha : a = nI s) (hb : b = nI p) : rQ1 (oMove τ i a b c) i := by
  refine ⟨s, p, hs, hp, ?_, ?_⟩
  · rw [← ha]; simp [oMove, su]
  · rw [← hb]; simp [oMove, su]
theorem oRf_lt (τ : oT) (i : Nat) {s nS : Nat} (hs : s < nS) : ∀ d j, oRf τ i s nS j d < nS
  | 0, _ => hs
  | d + 1, j => by
    unfold oRf
    split
    · exact Nat.mod_lt _ (by omega)
    · exact oRf_lt τ i hs d (j + 1)
theorem oCp_kq (τ : oT) (s : Nat) (y L : Int32) : ∀ n, oKQ (oCp τ s y L n) τ
  | 0 => oKQ.rf τ
  | n + 1 => oKQ.ite (oCp_kq τ s y L n) (oKQ.ite (oCp_kq τ s y L n) ((oKQ.su _ _ _ _ (by decide) (by decide)).tr (oCp_kq τ s y L n)))
theorem oGv_kq (τ : oT) (n s nH : Nat) : ∀ k, oKQ (oGv τ n s nH k).1 τ
  | 0 => oKQ.rf τ
  | k + 1 => by
    have ih := oGv_kq τ n s nH k
    simp only [oGv]
    split
    · exact (oCp_kq _ _ _ _ _).tr ih
    · split
      · exact ih
      · exact (oKQ.su _ _ _ _ (by decide) (by decide)).tr ih
theorem oGive_kq (τ : oT) (n s nH : Nat) : oKQ (oGive τ n s nH).1 τ := by
  unfold oGive
  split
  · exact oKQ.rf τ
  · exact (oKQ.su _ _ _ _ (by decide) (by decide)).tr (oGv_kq τ n s nH _)
theorem oTe_kq (τ : oT) (n s : Nat) : ∀ u, oKQ (oTe τ n s u) τ
  | 0 => oKQ.rf τ
  | u + 1 => (oKQ.su _ _ _ _ (by decide) (by decide)).tr (oTe_kq τ n s u)
theorem oTurn_kq (τ : oT) (i : Nat) : oKQ (oTurn τ i) τ := (oKQ.su _ _ _ _ (by decide) (by decide)).tr (oKQ.ite (oKQ.rf τ) (oKQ.su _ _ _ _ (by decide) (by decide)))
theorem oTb_kq (τ : oT) : ∀ n, oKQ (oTb τ n) τ
  | 0 => oKQ.rf τ
  | n + 1 => oKQ.ite ((oTurn_kq _ _).tr (oTb_kq τ n)) (oTb_kq τ n)
theorem oBn1_kq (τ : oT) (i s : Nat) : oKQ (oBn1 τ i s) τ := (oKQ.su _ _ _ _ (by decide) (by decide)).tr (oKQ.su _ _ _ _ (by decide) (by decide))
theorem oBanish_kq (τ : oT) {nS i s : Nat} (hs : s < nS) (hS : nS ≤ 6) : oKQ (oBanish τ nS i s) τ := oKQ.ite ((oMove_q (p := 0) _ _ (Nat.lt_of_lt_of_le (oRf_lt _ _ hs _ _) hS) (by decide) rfl (by decide)).tr (oBn1_kq τ i s)) (oBn1_kq τ i s)
theorem oZc_kq (τ : oT) (s : Nat) : ∀ n, oKQ (oZc τ s n) τ
  | 0 => oKQ.rf τ
  | n + 1 => (oKQ.su _ _ _ _ (by decide) (by decide)).tr (oZc_kq τ s n)
theorem oConst_kq (τ : oT) {nS nO s : Nat} (hs : s < nS) (hS : nS ≤ 6) : oKQ (oConst τ nS nO s) τ := oKQ.ite ((oZc_kq _ _ _).tr (oBanish_kq _ hs hS)) (oKQ.rf τ)
theorem oHl_kq (τ : oT) (i : Nat) : ∀ k, oKQ (oHl τ i k) τ
  | 0 => oKQ.ite (oKQ.rf τ) (oKQ.su _ _ _ _ (by decide) (by decide))
  | k + 1 => oKQ.ite (oHl_kq τ i k) ((oKQ.su _ _ _ _ (by decide) (by decide)).tr (oHl_kq τ i k))
theorem oP1_kq (τ : oT) (nO nH : Nat) : ∀ s, oKQ (oP1 τ nO nH s).1 τ
  | 0 => oKQ.rf τ
  | s + 1 => (oGive_kq _ _ _ _).tr (oP1_kq τ nO nH s)
theorem oP2_kq (τ : oT) (nO : Nat) : ∀ s, oKQ (oP2 τ nO s) τ
  | 0 => oKQ.rf τ
  | s + 1 => (oTe_kq _ _ _ _).tr (oP2_kq τ nO s)
theorem oP4_kq (τ : oT) {nS nO : Nat} (hS : nS ≤ 6) : ∀ s, s ≤ nS → oKQ (oP4 τ nS nO s) τ
  | 0, _ => oKQ.rf τ
  | s + 1, h => (oConst_kq _ (by omega) hS).tr (oP4_kq τ hS s (by omega))
theorem oP5_kq (τ : oT) : ∀ n, oKQ (oP5 τ n) τ
  | 0 => oKQ.rf τ
  | n + 1 => (oHl_kq _ _ _).tr (oP5_kq τ n)
theorem oH1_kq (τ : oT) (nS nO nH : Nat) : oKQ (oH1 τ nS nO nH) τ := oP1_kq _ _ _ _
theorem oH2_kq (τ : oT) (nS nO nH : Nat) : oKQ (oH2 τ nS nO nH) τ := (oP2_kq _ _ _).tr (oH1_kq _ _ _ _)
theorem oH3_kq (τ : oT) (nS nO nH : Nat) : oKQ (oH3 τ nS nO nH) τ := (oTb_kq _ _).tr (oH2_kq _ _ _ _)
theorem oH4_kq (τ : oT) {nS nO nH : Nat} (hS : nS ≤ 6) : oKQ (oH4 τ nS nO nH) τ := (oP4_kq _ hS nS (Nat.le_refl _)).tr (oH3_kq _ _ _ _)
theorem oH5_kq (τ : oT) {nS nO nH : Nat} (hS : nS ≤ 6) : oKQ (oH5 τ nS nO nH) τ := (oP5_kq _ _).tr (oH4_kq _ hS)
theorem oHour_kq (τ : oT) {nS nO nH : Nat} (hS : nS ≤ 6) : oKQ (oHour τ nS nO nH) τ := (oKQ.su _ _ _ _ (by decide) (by decide)).tr (oH5_kq τ hS)
theorem oPn_kq (τ : oT) {nS nO nH : Nat} (hS : nS ≤ 6) : ∀ k, oKQ (oPn τ nS nO nH k) τ
  | 0 => oKQ.rf τ
  | k + 1 => (oHour_kq _ hS).tr (oPn_kq τ hS k)
