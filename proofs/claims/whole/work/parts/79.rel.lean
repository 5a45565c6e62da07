/-! The relation between the class and the reference, between two calls of the law -/
def rT (α β γ τ δ : oT) (nS nO nH : Nat) : Prop := oOK α nS nO nH ∧ oPi β ∧ rPp γ δ ∧ rL α τ (δ 42 0) nS nO nH 6 8 (10680 * nH) ∧ (∀ s, nS ≤ s → s < 6 → ∀ u, u < 6 → α 1 s u = 5) ∧ (∀ s, s < nS → 0 < oNp α s) ∧ ∀ i, i < nO → rQ1 α i
theorem oRg_iff {v a b : Int32} (h : oRg v a b = true) : a ≤ v ∧ v ≤ b := by
  unfold oRg at h
  rw [Bool.and_eq_true] at h
  exact ⟨of_decide_eq_true h.1, of_decide_eq_true h.2⟩
theorem oRg_n {v : Int32} {a b : Nat} (h : oRg v (nI a) (nI b) = true) (ha : a < 2 ^ 31) (hb : b < 2 ^ 31) : v = nI (oN v) ∧ a ≤ oN v ∧ oN v ≤ b := by
  obtain ⟨h1, h2⟩ := oRg_iff h
  have h0 : 0 ≤ v := Int32.le_trans ((o_nle (a := 0) (b := a) rfl rfl (by decide) ha).mpr (Nat.zero_le a)) h1
  have e := oN_of h0
  have h3 := @oN_lt v
  rw [e] at h1 h2
  exact ⟨e, (o_nle rfl rfl ha h3).mp h1, (o_nle rfl rfl h3 hb).mp h2⟩
theorem rPp_mT {γ δ : oT} (h : rPp γ δ) (k : Nat) : rPp γ (mT δ k) := ⟨h.1, by rw [mT, su_j _ _ _ _ (by decide)]; exact h.2.1, fun j hj => by rw [mT_k _ _ (by decide)]; exact h.2.2 j hj⟩
theorem rT_mT {α β γ τ δ : oT} {nS nO nH : Nat} (h : rT α β γ τ δ nS nO nH) (k : Nat) : rT α β γ τ (mT δ k) nS nO nH := by
  obtain ⟨h1, h2, h3, h4, h5⟩ := h
  refine ⟨h1, h2, rPp_mT h3 k, ?_, h5⟩
  rw [mT_k _ _ (by decide)]; exact h4
theorem rT.q {α β γ τ δ : oT} {nS nO nH : Nat} (h : rT α β γ τ δ nS nO nH) : qOK τ nS nO nH := h.2.2.2.1.1
theorem rT.np {α β γ τ δ : oT} {nS nO nH : Nat} (h : rT α β γ τ δ nS nO nH) {s : Nat} (hs : s < nS) : oNp α s = qNp τ s := h.2.2.2.1.2.1.np hs
theorem rT.S {α β γ τ δ : oT} {nS nO nH : Nat} (h : rT α β γ τ δ nS nO nH) : nS ≤ 6 := h.1.2.1
theorem rT.O {α β γ τ δ : oT} {nS nO nH : Nat} (h : rT α β γ τ δ nS nO nH) : nO ≤ 8 := h.1.2.2.2.1
theorem rT.beta {α β β' γ τ δ : oT} {nS nO nH : Nat} (h : rT α β γ τ δ nS nO nH) (hb : oPi β') : rT α β' γ τ δ nS nO nH := ⟨h.1, hb, h.2.2⟩
/-! the codes are the same -/
theorem pit_eq {nS : Nat} {P P' : Nat → Nat} (hS : nS < 2 ^ 31) (h : ∀ s, s < nS → P s = P' s) (x y : Int32) : (oIn x nS && oIn y (P (oN x))) = (oIn x nS && oIn y (P' (oN x))) := by
  cases e : oIn x nS
  · rw [Bool.false_and, Bool.false_and]
  · rw [h _ (oIn_lt hS e)]
theorem cAdd_eq {nS nO : Nat} {P P' : Nat → Nat} (hS : nS < 2 ^ 31) (h : ∀ s, s < nS → P s = P' s) (x y z : Int32) : cAdd nS nO P x y z = cAdd nS nO P' x y z := by
  unfold cAdd
  rw [pit_eq hS h x y]
theorem cHeard_eq {nS : Nat} {P P' : Nat → Nat} (hS : nS < 2 ^ 31) (h : ∀ s, s < nS → P s = P' s) (x y : Int32) : cHeard nS P x y = cHeard nS P' x y := by
  unfold cHeard
  rw [pit_eq hS h x y]
theorem cSend_eq {nS nO : Nat} {P P' : Nat → Nat} {g g' : Int32} {x y z : Int32} (hS : nS < 2 ^ 31) (h : ∀ s, s < nS → P s = P' s) (hg : oIn x nO = true → oIn y nS = true → g = g') : cSend nS nO P g x y z = cSend nS nO P' g' x y z := by
  unfold cSend
  rw [pit_eq hS h y z]
  by_cases c1 : oIn x nO = true
  · by_cases c2 : oIn y nS = true
    · rw [hg c1 c2]
    · have e : (oIn y nS && oIn z (P' (oN y))) = false := by rw [Bool.eq_false_iff.mpr c2]; rfl
      rw [e, if_neg (fun q => by cases q.2), if_neg (fun q => by cases q.2)]
  · rw [if_neg (fun q => c1 q.1), if_neg (fun q => c1 q.1)]
/-! what each call does -/
theorem rT.build {α β γ τ δ : oT} {nS nO nH : Nat} {x : Int32} (h : rT α β γ τ δ nS nO nH) (hc : cBuild nS x = 0) : rT (su (su α 3 nS 0 x) 18 0 0 (nI (nS + 1))) β γ (mBuild τ nS x) (mT δ 0) (nS + 1) nO nH := by
  have hS := h.S
  unfold cBuild at hc
  by_cases c1 : oRg x 3 20 = true
  · rw [if_pos c1] at hc
    by_cases c2 : nS = 6
    · rw [if_pos c2] at hc; cases hc
    · obtain ⟨e, e1, e2⟩ := oRg_n (a := 3) (b := 20) c1 (by decide) (by decide)
      obtain ⟨⟨o1, o2, o3, o4, o5, o6, o7⟩, h2, h3, h4, h5, h6, h7⟩ := rT_mT h 0
      have e3 : ∀ s, (su (su α 3 nS 0 x) 18 0 0 (nI (nS + 1))) 3 s 0 = if s = nS then x else α 3 s 0 := fun s => by
        rw [su_k _ _ _ _ (by decide)]
        by_cases q : s = nS
        · subst q; rw [su_s, if_pos rfl]
        · rw [su_i _ _ _ _ q, if_neg q]
      refine ⟨⟨?_, by omega, ?_, o4, ?_, o6, fun s hs => ?_⟩, h2, h3, h4.build (by omega) e e2 (fun u hu => h5 nS (Nat.le_refl _) (by omega) u hu), fun s h1 h2 u hu => ?_, fun s hs => ?_, fun i hi => ?_⟩
      · rw [su_s]
      · rw [su_j _ _ _ _ (by decide), su_k _ _ _ _ (by decide)]; exact o3
      · rw [su_j _ _ _ _ (by decide), su_k _ _ _ _ (by decide)]; exact o5
      · unfold oNp
        rw [e3]
        by_cases q : s = nS
        · rw [if_pos q]; exact ⟨e, e2⟩
        · rw [if_neg q]; exact o7 s hs
      · rw [su_k _ _ _ _ (by decide), su_k _ _ _ _ (by decide)]; exact h5 s (by omega) h2 u hu
      · unfold oNp
        rw [e3]
        by_cases q : s = nS
        · rw [if_pos q]; show 0 < oN x; omega
        · rw [if_neg q]; exact h6 s (by omega)
      · have := h7 i hi
        unfold rQ1 at this ⊢
        rw [su_k _ _ _ _ (by decide), su_k _ _ _ _ (by decide), su_k _ _ _ _ (by decide), su_k _ _ _ _ (by decide)]
        exact this
  · rw [if_neg c1] at hc; cases hc
theorem cSetP_0 {nS : Nat} {x y z : Int32} (hS : nS < 2 ^ 31) (hc : cSetP nS x y z = 0) : oN x < nS ∧ oN y < 24 ∧ z = nI (oN z) ∧ oN z ≤ 99 := by
  unfold cSetP at hc
  by_cases c1 : oIn x nS = true ∧ oRg y 0 23 = true
  · rw [if_pos c1] at hc
    by_cases c2 : oRg z 0 99 = true
    · obtain ⟨e, -, e2⟩ := oRg_n (a := 0) (b := 99) c2 (by decide) (by decide)
      obtain ⟨-, -, e4⟩ := oRg_n (a := 0) (b := 23) c1.2 (by decide) (by decide)
      exact ⟨oIn_lt hS c1.1, by omega, e, e2⟩
    · rw [if_neg c2] at hc; cases hc
  · rw [if_neg c1] at hc; cases hc
theorem rT.setP {α β γ τ δ : oT} {nS nO nH : Nat} {x y z : Int32} (h : rT α β γ τ δ nS nO nH) (hc : cSetP nS x y z = 0) : rT (su α 0 (oN x) (oN y) z) β γ τ (su (mT δ 0) 42 0 (24 * oN x + oN y) z) nS nO nH ∧ α 0 (oN x) (oN y) = δ 42 0 (24 * oN x + oN y) := by
  have hS := h.S
  obtain ⟨c1, c2, c3, c4⟩ := cSetP_0 (by omega) hc
  have hk := h.2.2.2.1.2.1.1.1 (oN x) (by omega) (oN y) c2
  obtain ⟨h1, h2, h3, h4, h5, h6, h7⟩ := h
  refine ⟨⟨h1.of (oKp.su _ _ _ _ (by decide) (by decide)), h2, ⟨h3.1, ?_, fun j hj => ?_⟩, ?_, fun s q1 q2 u hu => ?_, fun s hs => ?_, fun i hi => oKQ.su _ _ _ _ (by decide) (by decide) i (h7 i hi)⟩, hk⟩
  · rw [su_k _ _ _ _ (by decide)]; exact (rPp_mT h3 0).2.1
  · rw [su_k _ _ _ _ (by decide)]; exact (rPp_mT h3 0).2.2 j hj
  · refine h4.pas (by omega) c2 c3 c4 (fun j => ?_)
    rw [su_at, mT_k _ _ (show 42 ≠ 41 by decide)]
    by_cases q : j = 24 * oN x + oN y
    · rw [if_pos ⟨rfl, q⟩, if_pos q]
    · rw [if_neg (fun z => q z.2), if_neg q]
  · rw [su_k _ _ _ _ (by decide)]; exact h5 s q1 q2 u hu
  · unfold oNp; rw [su_k _ _ _ _ (by decide)]; exact h6 s hs
theorem cSetT_0 {nS : Nat} {x y z : Int32} (hS : nS < 2 ^ 31) (hc : cSetT nS x y z = 0) : oN x < nS ∧ oN y < 6 ∧ z = nI (oN z) ∧ oN z ≤ 9 := by
  unfold cSetT at hc
  by_cases c1 : oIn x nS = true ∧ oRg y 0 5 = true
  · rw [if_pos c1] at hc
    by_cases c2 : oRg z 0 9 = true
    · obtain ⟨e, -, e2⟩ := oRg_n (a := 0) (b := 9) c2 (by decide) (by decide)
      obtain ⟨-, -, e4⟩ := oRg_n (a := 0) (b := 5) c1.2 (by decide) (by decide)
      exact ⟨oIn_lt hS c1.1, by omega, e, e2⟩
    · rw [if_neg c2] at hc; cases hc
  · rw [if_neg c1] at hc; cases hc
theorem rT.setT {α β γ τ δ : oT} {nS nO nH : Nat} {x y z : Int32} (h : rT α β γ τ δ nS nO nH) (hc : cSetT nS x y z = 0) : rT (su α 1 (oN x) (oN y) z) β γ (su τ 2 0 (6 * oN x + oN y) z) (mT δ 0) nS nO nH ∧ α 1 (oN x) (oN y) = τ 2 0 (6 * oN x + oN y) := by
  have hS := h.S
  obtain ⟨c1, c2, c3, c4⟩ := cSetT_0 (by omega) hc
  have hk := h.2.2.2.1.2.1.1.2.1 (oN x) c1 (oN y) c2
  obtain ⟨h1, h2, h3, h4, h5, h6, h7⟩ := rT_mT h 0
  refine ⟨⟨h1.of (oKp.su _ _ _ _ (by decide) (by decide)), h2, h3, h4.taste c1 c2 c3 c4, fun s q1 q2 u hu => ?_, fun s hs => ?_, fun i hi => oKQ.su _ _ _ _ (by decide) (by decide) i (h7 i hi)⟩, hk⟩
  · rw [su_i _ _ _ _ (by omega)]; exact h5 s q1 q2 u hu
  · unfold oNp; rw [su_k _ _ _ _ (by decide)]; exact h6 s hs
theorem rT.street {α β γ τ δ : oT} {nS nO nH : Nat} {x y : Int32} (h : rT α β γ τ δ nS nO nH) (hc : cStreet nS x y = 0) : oSFact α nO nH (oN x) (oN y) = qStT τ δ nO nH (oN x) (oN y) := by
  have hS := h.S
  unfold cStreet at hc
  by_cases c1 : oIn x nS = true ∧ oRg y 0 7 = true
  · exact rSFact h.2.2.2.1 (oIn_lt (by omega) c1.1)
  · rw [if_neg c1] at hc; cases hc
theorem rT.ear {α β γ τ δ : oT} {nS nO nH : Nat} {x y : Int32} (bb : Bool) (h : rT α β γ τ δ nS nO nH) (hc : cEar nS x y = 0) : (if bb = true then α 1 (oN x) (oN y) else α 2 (oN x) (oN y)) = (if bb = true then τ 2 0 (6 * oN x + oN y) else τ 3 0 (6 * oN x + oN y)) := by
  have hS := h.S
  unfold cEar at hc
  by_cases c1 : oIn x nS = true ∧ oRg y 0 5 = true
  · obtain ⟨-, -, e4⟩ := oRg_n (a := 0) (b := 5) c1.2 (by decide) (by decide)
    have hx := oIn_lt (by omega) c1.1
    have hr := h.2.2.2.1.2.1.1
    rw [hr.2.1 _ hx _ (by omega), hr.2.2.1 _ (by omega) _ (by omega)]
  · rw [if_neg c1] at hc; cases hc
