/-! An hour keeps the tastes -/
def oK1 (σ τ : oT) : Prop := σ 1 = τ 1
theorem oK1.rf (τ : oT) : oK1 τ τ := rfl
theorem oK1.tr {a b c : oT} (h : oK1 a b) (h' : oK1 b c) : oK1 a c := Eq.trans h h'
theorem oK1.su (τ : oT) {k : Nat} (i j : Nat) (x : Int32) (h : 1 ≠ k) (_h' : 1 ≠ k) : oK1 (su τ k i j x) τ := su_k τ i j x h
theorem oK1.ite {c : Prop} [Decidable c] {a b τ : oT} (h : oK1 a τ) (h' : oK1 b τ) : oK1 (if c then a else b) τ := by
  by_cases hc : c
  · rw [if_pos hc]; exact h
  · rw [if_neg hc]; exact h'
theorem oCp_k1 (τ : oT) (s : Nat) (y L : Int32) : ∀ n, oK1 (oCp τ s y L n) τ
  | 0 => oK1.rf τ
  | n + 1 => oK1.ite (oCp_k1 τ s y L n) (oK1.ite (oCp_k1 τ s y L n) ((oK1.su _ _ _ _ (by decide) (by decide)).tr (oCp_k1 τ s y L n)))
theorem oGv_k1 (τ : oT) (n s nH : Nat) : ∀ k, oK1 (oGv τ n s nH k).1 τ
  | 0 => oK1.rf τ
  | k + 1 => by
    have ih := oGv_k1 τ n s nH k
    simp only [oGv]
    split
    · exact (oCp_k1 _ _ _ _ _).tr ih
    · split
      · exact ih
      · exact (oK1.su _ _ _ _ (by decide) (by decide)).tr ih
theorem oGive_k1 (τ : oT) (n s nH : Nat) : oK1 (oGive τ n s nH).1 τ := by
  unfold oGive
  split
  · exact oK1.rf τ
  · exact (oK1.su _ _ _ _ (by decide) (by decide)).tr (oGv_k1 τ n s nH _)
theorem oTe_k1 (τ : oT) (n s : Nat) : ∀ u, oK1 (oTe τ n s u) τ
  | 0 => oK1.rf τ
  | u + 1 => (oK1.su _ _ _ _ (by decide) (by decide)).tr (oTe_k1 τ n s u)
theorem oTurn_k1 (τ : oT) (i : Nat) : oK1 (oTurn τ i) τ := (oK1.su _ _ _ _ (by decide) (by decide)).tr (oK1.ite (oK1.rf τ) (oK1.su _ _ _ _ (by decide) (by decide)))
theorem oTb_k1 (τ : oT) : ∀ n, oK1 (oTb τ n) τ
  | 0 => oK1.rf τ
  | n + 1 => oK1.ite ((oTurn_k1 _ _).tr (oTb_k1 τ n)) (oTb_k1 τ n)
theorem oBn1_k1 (τ : oT) (i s : Nat) : oK1 (oBn1 τ i s) τ := (oK1.su _ _ _ _ (by decide) (by decide)).tr (oK1.su _ _ _ _ (by decide) (by decide))
theorem oMove_k1 (τ : oT) (i : Nat) (a b c : Int32) : oK1 (oMove τ i a b c) τ := (oK1.su _ _ _ _ (by decide) (by decide)).tr ((oK1.su _ _ _ _ (by decide) (by decide)).tr (oK1.su _ _ _ _ (by decide) (by decide)))
theorem oBanish_k1 (τ : oT) (nS i s : Nat) : oK1 (oBanish τ nS i s) τ := oK1.ite ((oMove_k1 _ _ _ _ _).tr (oBn1_k1 τ i s)) (oBn1_k1 τ i s)
theorem oZc_k1 (τ : oT) (s : Nat) : ∀ n, oK1 (oZc τ s n) τ
  | 0 => oK1.rf τ
  | n + 1 => (oK1.su _ _ _ _ (by decide) (by decide)).tr (oZc_k1 τ s n)
theorem oConst_k1 (τ : oT) (nS nO s : Nat) : oK1 (oConst τ nS nO s) τ := oK1.ite ((oZc_k1 _ _ _).tr (oBanish_k1 _ _ _ _)) (oK1.rf τ)
theorem oHl_k1 (τ : oT) (i : Nat) : ∀ k, oK1 (oHl τ i k) τ
  | 0 => oK1.ite (oK1.rf τ) (oK1.su _ _ _ _ (by decide) (by decide))
  | k + 1 => oK1.ite (oHl_k1 τ i k) ((oK1.su _ _ _ _ (by decide) (by decide)).tr (oHl_k1 τ i k))
theorem oP1_k1 (τ : oT) (nO nH : Nat) : ∀ s, oK1 (oP1 τ nO nH s).1 τ
  | 0 => oK1.rf τ
  | s + 1 => (oGive_k1 _ _ _ _).tr (oP1_k1 τ nO nH s)
theorem oP2_k1 (τ : oT) (nO : Nat) : ∀ s, oK1 (oP2 τ nO s) τ
  | 0 => oK1.rf τ
  | s + 1 => (oTe_k1 _ _ _ _).tr (oP2_k1 τ nO s)
theorem oP4_k1 (τ : oT) (nS nO : Nat) : ∀ s, oK1 (oP4 τ nS nO s) τ
  | 0 => oK1.rf τ
  | s + 1 => (oConst_k1 _ _ _ _).tr (oP4_k1 τ nS nO s)
theorem oP5_k1 (τ : oT) : ∀ n, oK1 (oP5 τ n) τ
  | 0 => oK1.rf τ
  | n + 1 => (oHl_k1 _ _ _).tr (oP5_k1 τ n)
theorem oH1_k1 (τ : oT) (nS nO nH : Nat) : oK1 (oH1 τ nS nO nH) τ := oP1_k1 _ _ _ _
theorem oH2_k1 (τ : oT) (nS nO nH : Nat) : oK1 (oH2 τ nS nO nH) τ := (oP2_k1 _ _ _).tr (oH1_k1 _ _ _ _)
theorem oH3_k1 (τ : oT) (nS nO nH : Nat) : oK1 (oH3 τ nS nO nH) τ := (oTb_k1 _ _).tr (oH2_k1 _ _ _ _)
theorem oH4_k1 (τ : oT) (nS nO nH : Nat) : oK1 (oH4 τ nS nO nH) τ := (oP4_k1 _ _ _ _).tr (oH3_k1 _ _ _ _)
theorem oH5_k1 (τ : oT) (nS nO nH : Nat) : oK1 (oH5 τ nS nO nH) τ := (oP5_k1 _ _).tr (oH4_k1 _ _ _ _)
theorem oHour_k1 (τ : oT) (nS nO nH : Nat) : oHour τ nS nO nH 1 = τ 1 := (oK1.su _ _ _ _ (by decide) (by decide)).tr (oH5_k1 τ nS nO nH)
theorem oPn_k1 (τ : oT) (nS nO nH : Nat) : ∀ k, oPn τ nS nO nH k 1 = τ 1
  | 0 => rfl
  | k + 1 => (oHour_k1 _ _ _ _).trans (oPn_k1 τ nS nO nH k)
