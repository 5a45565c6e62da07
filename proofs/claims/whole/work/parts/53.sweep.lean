/-! THE TWO MEMORIES SIDE BY SIDE: a street's constables, the end of the hour -/
theorem oBn1_k (τ : oT) (i s : Nat) {a : Nat} (h : a ≠ 9) (h' : a ≠ 5) : oBn1 τ i s a = τ a := by
  unfold oBn1
  rw [su_k _ _ _ _ h', su_k _ _ _ _ h]
theorem qS1_k (τ : oT) (w s : Nat) {a : Nat} (h : a ≠ 15) (h' : a ≠ 17) (h'' : a ≠ 5) : qS1 τ w s a = τ a := by
  unfold qS1
  rw [su_k _ _ _ _ h'', su_k _ _ _ _ h', su_k _ _ _ _ h]
theorem oMove_k (τ : oT) (i : Nat) (x y z : Int32) {a : Nat} (h : a ≠ 10) (h' : a ≠ 11) (h'' : a ≠ 12) : oMove τ i x y z a = τ a := by
  unfold oMove
  rw [su_k _ _ _ _ h'', su_k _ _ _ _ h', su_k _ _ _ _ h]
theorem rN.set {α τ : oT} {n w s : Nat} (h : rN α τ n) (hs : s < 6) : rN (oBn1 α w s) (qS1 τ w s) n := by
  have e9 : oBn1 α w s 9 = su α 9 w s 25 9 := by unfold oBn1; rw [su_k _ _ _ _ (by decide)]
  have e15 : qS1 τ w s 15 = su τ 15 0 (6 * w + s) 24 15 := by unfold qS1; rw [su_k _ _ _ _ (by decide), su_k _ _ _ _ (by decide)]
  have e17 : qS1 τ w s 17 = su τ 17 0 (6 * w + s) 1 17 := by unfold qS1; rw [su_k _ _ _ _ (by decide)]; funext b c; rw [su_at, su_at, su_k _ _ _ _ (show (17 : Nat) ≠ 15 by decide)]
  intro i hi r hr
  rw [e9, e15, e17, su_at, su_at, su_at]
  by_cases c : i = w ∧ r = s
  · obtain ⟨rfl, rfl⟩ := c
    rw [if_pos ⟨rfl, rfl⟩, if_pos ⟨rfl, rfl⟩, if_pos ⟨rfl, rfl⟩]
    exact Or.inr ⟨by decide, rfl, rfl⟩
  · rw [if_neg c, if_neg (fun q => c (by omega)), if_neg (fun q => c (by omega))]
    exact h i hi r hr
theorem rY_le {α τ : oT} {n i : Nat} (h : rY α τ n) (hi : i < n) : τ 8 0 i ≤ 0 ↔ α 12 i 0 = 0 := by
  rcases h i hi with ⟨-, h2, h3⟩ | ⟨-, ⟨h2, h3⟩ | ⟨h2, h3⟩⟩
  · rw [h2]
    exact ⟨fun q => absurd q (Int32.not_le.mpr h3), fun q => by rw [q]; exact Int32.le_refl 0⟩
  · rw [h2, h3]; decide
  · rw [h2, h3]; decide
theorem rConst {α τ : oT} {nS nO M N s : Nat} (h : rM α τ nO M N) (hs : s < nS) (hS : nS ≤ M) (hM : M ≤ 6) (hn : nO ≤ N) (hN8 : N ≤ 8) : rM (oConst α nS nO s) (if qCo τ (nI s) (-1) (nO * 6) < 10 then τ else qSweep τ nS nO s) nO M N := by
  have hc : oComplN α s nO = qCo τ (nI s) (-1) (nO * 6) := rComp (by omega) h.2.2.2.1 nO hn (by omega)
  unfold oConst
  rw [hc]
  by_cases c : qCo τ (nI s) (-1) (nO * 6) < 10
  · rw [if_pos c, if_neg (Int32.not_le.mpr c)]; exact h
  rw [if_neg c, if_pos (Int32.not_lt.mp c)]
  have hO : 0 < nO := by
    rcases Nat.eq_zero_or_pos nO with e | e
    · subst e
      exact absurd (show qCo τ (nI s) (-1) (0 * 6) < 10 by show (0 : Int32) < 10; decide) c
    · exact e
  have ew := rWo (by omega) h.2.2.2.1 (nO - 1) (by omega) (s := s)
  have hw := qWo_le τ s (nO - 1)
  unfold qSweep qS2
  rw [ew]
  generalize qWo τ s (nO - 1) = w at hw ⊢
  have hw : w < nO := by omega
  obtain ⟨h10, h11, h13, h8, h5, hY, hN⟩ := h
  -- the banishment is written, the complaints are gone
  have hN1 : rN (oBn1 α w s) (qZc (qS1 τ w s) s nO) N := by
    have := hN.set (w := w) (s := s) (by omega)
    unfold rN at this ⊢
    rw [qZc_k _ _ (by decide), qZc_k _ _ (by decide)]
    exact this
  have e5 : oBn1 α w s 5 = su (su α 9 w s 25) 5 s 0 (su α 9 w s 25 5 s 0 + 1) 5 := rfl
  have f5 : qZc (qS1 τ w s) s nO 5 = su (su (su τ 15 0 (6 * w + s) 24) 17 0 (6 * w + s) 1) 5 0 s (su (su τ 15 0 (6 * w + s) 24) 17 0 (6 * w + s) 1 5 0 s + 1) 5 := by rw [qZc_k _ _ (by decide)]; rfl
  have h5' : rA (oBn1 α w s 5) (qZc (qS1 τ w s) s nO 5) M := by
    rw [e5, f5]
    refine rA.su ?_ s ?_
    · rw [su_k _ _ _ _ (by decide), su_k _ _ _ _ (by decide), su_k _ _ _ _ (by decide)]; exact h5
    · rw [su_k _ _ _ _ (by decide), su_k _ _ _ _ (by decide), su_k _ _ _ _ (by decide), h5 s (by omega)]
  have h8' : ∀ σ : oT, σ 8 = α 8 → rB (oZc σ s nO 8) (qZc (qS1 τ w s) s nO 14) N := fun σ hσ => by
    refine rZc (by omega) ?_ nO
    rw [hσ, qS1_k _ _ _ (by decide) (by decide) (by decide)]; exact h8
  have g6 : qZc (qS1 τ w s) s nO 6 = τ 6 := by rw [qZc_k _ _ (by decide), qS1_k _ _ _ (by decide) (by decide) (by decide)]
  have g7 : qZc (qS1 τ w s) s nO 7 = τ 7 := by rw [qZc_k _ _ (by decide), qS1_k _ _ _ (by decide) (by decide) (by decide)]
  have g8 : qZc (qS1 τ w s) s nO 8 = τ 8 := by rw [qZc_k _ _ (by decide), qS1_k _ _ _ (by decide) (by decide) (by decide)]
  have g9 : qZc (qS1 τ w s) s nO 9 = τ 9 := by rw [qZc_k _ _ (by decide), qS1_k _ _ _ (by decide) (by decide) (by decide)]
  have g16 : qZc (qS1 τ w s) s nO 16 = τ 16 := by rw [qZc_k _ _ (by decide), qS1_k _ _ _ (by decide) (by decide) (by decide)]
  have hle := rY_le hY hw
  have est : oStd (oBn1 α w s) w (nI s) = true ↔ (qZc (qS1 τ w s) s nO 6 0 w = nI s ∧ qZc (qS1 τ w s) s nO 8 0 w ≤ 0) := by
    unfold oStd
    rw [oBn1_k _ _ _ (by decide) (by decide), oBn1_k _ _ _ (by decide) (by decide), Bool.and_eq_true, decide_eq_true_iff, decide_eq_true_iff, g6, g8, hle, h10 w hw]
    exact And.comm
  have hRf : oRf (oBn1 α w s) w s nS 1 (nS - 1) = qTo (qZc (qS1 τ w s) s nO) w s nS (nS - 1) := by
    have := rRf (α := oBn1 α w s) (τ := qZc (qS1 τ w s) s nO) (w := w) (s := s) (nS := nS) (fun r hr => rN_0 hN1 (by omega) (by omega)) (by omega) (nS - 1) (by omega)
    rwa [show nS - (nS - 1) = 1 by omega] at this
  unfold oBanish
  by_cases d : oStd (oBn1 α w s) w (nI s) = true
  · obtain ⟨d1, d2⟩ := est.mp d
    rw [if_pos d, if_neg (fun q => q d1), if_neg (fun q => q d2), hRf]
    generalize qTo (qZc (qS1 τ w s) s nO) w s nS (nS - 1) = t
    have h12 : α 12 w 0 = 0 := hle.mp (by rw [← g8]; exact d2)
    have h16 : τ 16 0 w = 0 := by
      rcases hY w hw with ⟨-, y2, y3⟩ | ⟨y1, -⟩
      · rw [← y2, h12] at y3; exact absurd y3 (by decide)
      · exact y1
    refine ⟨?_, ?_, ?_, ?_, ?_, ?_, ?_⟩
    · show rA (oZc _ s nO 10) (su (su (su _ 6 0 w _) 7 0 w 0) 8 0 w 2 6) nO
      rw [oZc_k _ _ (by decide), su_k _ _ _ _ (show (6 : Nat) ≠ 8 by decide), su_k _ _ _ _ (show (6 : Nat) ≠ 7 by decide)]
      unfold oMove
      rw [su_k _ _ _ _ (show (10 : Nat) ≠ 12 by decide), su_k _ _ _ _ (show (10 : Nat) ≠ 11 by decide)]
      refine rA.su ?_ w rfl
      rw [oBn1_k _ _ _ (by decide) (by decide), g6]; exact h10
    · show rA (oZc _ s nO 11) (su (su (su _ 6 0 w _) 7 0 w 0) 8 0 w 2 7) nO
      rw [oZc_k _ _ (by decide), su_k _ _ _ _ (show (7 : Nat) ≠ 8 by decide)]
      unfold oMove
      rw [su_k _ _ _ _ (show (11 : Nat) ≠ 12 by decide)]
      refine rA.su ?_ w rfl
      rw [su_k _ _ _ _ (show (11 : Nat) ≠ 10 by decide), su_k _ _ _ _ (show (7 : Nat) ≠ 6 by decide), oBn1_k _ _ _ (by decide) (by decide), g7]; exact h11
    · show rA (oZc _ s nO 13) (su (su (su _ 6 0 w _) 7 0 w 0) 8 0 w 2 9) nO
      rw [oZc_k _ _ (by decide), oMove_k _ _ _ _ _ (by decide) (by decide) (by decide), oBn1_k _ _ _ (by decide) (by decide), su_k _ _ _ _ (by decide), su_k _ _ _ _ (by decide), su_k _ _ _ _ (by decide), g9]
      exact h13
    · show rB (oZc _ s nO 8) (su (su (su _ 6 0 w _) 7 0 w 0) 8 0 w 2 14) N
      rw [su_k _ _ _ _ (by decide), su_k _ _ _ _ (by decide), su_k _ _ _ _ (by decide)]
      exact h8' _ (by rw [oMove_k _ _ _ _ _ (by decide) (by decide) (by decide), oBn1_k _ _ _ (by decide) (by decide)])
    · show rA (oZc _ s nO 5) (su (su (su _ 6 0 w _) 7 0 w 0) 8 0 w 2 5) M
      rw [oZc_k _ _ (by decide), oMove_k _ _ _ _ _ (by decide) (by decide) (by decide), su_k _ _ _ _ (by decide), su_k _ _ _ _ (by decide), su_k _ _ _ _ (by decide)]
      exact h5'
    · intro i hi
      have e12 : oZc (oMove (oBn1 α w s) w (nI t) 0 3) s nO 12 i 0 = if i = w then 3 else α 12 i 0 := by
        rw [oZc_k _ _ (by decide)]
        unfold oMove
        rw [su_at, su_k _ _ _ _ (show (12 : Nat) ≠ 11 by decide), su_k _ _ _ _ (show (12 : Nat) ≠ 10 by decide), oBn1_k _ _ _ (by decide) (by decide)]
        by_cases e : i = w
        · rw [if_pos ⟨e, rfl⟩, if_pos e]
        · rw [if_neg (fun q => e q.1), if_neg e]
      have f8 : su (su (su (qZc (qS1 τ w s) s nO) 6 0 w (nI t)) 7 0 w 0) 8 0 w 2 8 0 i = if i = w then 2 else τ 8 0 i := by
        rw [su_at, su_k _ _ _ _ (show (8 : Nat) ≠ 7 by decide), su_k _ _ _ _ (show (8 : Nat) ≠ 6 by decide), g8]
        by_cases e : i = w
        · rw [if_pos ⟨rfl, e⟩, if_pos e]
        · rw [if_neg (fun q => e q.2), if_neg e]
      have f16 : su (su (su (qZc (qS1 τ w s) s nO) 6 0 w (nI t)) 7 0 w 0) 8 0 w 2 16 = τ 16 := by
        rw [su_k _ _ _ _ (by decide), su_k _ _ _ _ (by decide), su_k _ _ _ _ (by decide), g16]
      rw [e12, f8, f16]
      by_cases e : i = w
      · subst e
        rw [if_pos rfl, if_pos rfl]
        exact Or.inr ⟨h16, Or.inr ⟨rfl, rfl⟩⟩
      · rw [if_neg e, if_neg e]
        exact hY i hi
    · unfold rN
      rw [oZc_k _ _ (by decide), oMove_k _ _ _ _ _ (by decide) (by decide) (by decide), su_k _ _ _ _ (show (15 : Nat) ≠ 8 by decide), su_k _ _ _ _ (show (15 : Nat) ≠ 7 by decide), su_k _ _ _ _ (show (15 : Nat) ≠ 6 by decide), su_k _ _ _ _ (show (17 : Nat) ≠ 8 by decide), su_k _ _ _ _ (show (17 : Nat) ≠ 7 by decide), su_k _ _ _ _ (show (17 : Nat) ≠ 6 by decide)]
      exact hN1
  · rw [if_neg d]
    have hR : rM (oZc (oBn1 α w s) s nO) (qZc (qS1 τ w s) s nO) nO M N := by
      refine ⟨?_, ?_, ?_, ?_, ?_, ?_, ?_⟩
      · rw [oZc_k _ _ (by decide), oBn1_k _ _ _ (by decide) (by decide), g6]; exact h10
      · rw [oZc_k _ _ (by decide), oBn1_k _ _ _ (by decide) (by decide), g7]; exact h11
      · rw [oZc_k _ _ (by decide), oBn1_k _ _ _ (by decide) (by decide), g9]; exact h13
      · exact h8' _ (oBn1_k _ _ _ (by decide) (by decide))
      · rw [oZc_k _ _ (by decide)]; exact h5'
      · unfold rY
        rw [oZc_k _ _ (by decide), oBn1_k _ _ _ (by decide) (by decide), g8, g16]; exact hY
      · unfold rN
        rw [oZc_k _ _ (by decide)]; exact hN1
    by_cases d1 : qZc (qS1 τ w s) s nO 6 0 w = nI s
    · rw [if_neg (fun q => q d1), if_pos (fun q => d (est.mpr ⟨d1, q⟩))]; exact hR
    · rw [if_pos d1]; exact hR
theorem rP4 {α τ : oT} {nS nO M N : Nat} (h : rM α τ nO M N) (hS : nS ≤ M) (hM : M ≤ 6) (hn : nO ≤ N) (hN8 : N ≤ 8) : ∀ s, s ≤ nS → rM (oP4 α nS nO s) (q6 τ nS nO s) nO M N
  | 0, _ => h
  | s + 1, hs => by
    simp only [oP4, q6]
    exact rConst (rP4 h hS hM hn hN8 s (by omega)) (by omega) hS hM hn hN8
theorem oBanish_k (τ : oT) (nS i s : Nat) {a : Nat} (h9 : a ≠ 9) (h5 : a ≠ 5) (h10 : a ≠ 10) (h11 : a ≠ 11) (h12 : a ≠ 12) : oBanish τ nS i s a = τ a := by
  unfold oBanish
  split
  · rw [oMove_k _ _ _ _ _ h10 h11 h12, oBn1_k _ _ _ h9 h5]
  · rw [oBn1_k _ _ _ h9 h5]
theorem oP4_k (τ : oT) (nS nO : Nat) {a : Nat} (h9 : a ≠ 9) (h5 : a ≠ 5) (h10 : a ≠ 10) (h11 : a ≠ 11) (h12 : a ≠ 12) (h8 : a ≠ 8) : ∀ s, oP4 τ nS nO s a = τ a
  | 0 => rfl
  | s + 1 => by
    have ih := oP4_k τ nS nO h9 h5 h10 h11 h12 h8 s
    simp only [oP4]
    unfold oConst
    split
    · rw [oZc_k _ _ h8, oBanish_k _ _ _ _ h9 h5 h10 h11 h12]; exact ih
    · exact ih
theorem qS2_k (τ : oT) (nO s : Nat) {a : Nat} (h15 : a ≠ 15) (h17 : a ≠ 17) (h5 : a ≠ 5) (h14 : a ≠ 14) : qS2 τ nO s a = τ a := by
  unfold qS2
  rw [qZc_k _ _ h14, qS1_k _ _ _ h15 h17 h5]
theorem qSweep_k (τ : oT) (nS nO s : Nat) {a : Nat} (h15 : a ≠ 15) (h17 : a ≠ 17) (h5 : a ≠ 5) (h14 : a ≠ 14) (h6 : a ≠ 6) (h7 : a ≠ 7) (h8 : a ≠ 8) : qSweep τ nS nO s a = τ a := by
  unfold qSweep
  split
  · exact qS2_k _ _ _ h15 h17 h5 h14
  · split
    · exact qS2_k _ _ _ h15 h17 h5 h14
    · rw [su_k _ _ _ _ h8, su_k _ _ _ _ h7, su_k _ _ _ _ h6]
      exact qS2_k _ _ _ h15 h17 h5 h14
theorem q6_k (τ : oT) (nS nO : Nat) {a : Nat} (h15 : a ≠ 15) (h17 : a ≠ 17) (h5 : a ≠ 5) (h14 : a ≠ 14) (h6 : a ≠ 6) (h7 : a ≠ 7) (h8 : a ≠ 8) : ∀ s, q6 τ nS nO s a = τ a
  | 0 => rfl
  | s + 1 => by
    have ih := q6_k τ nS nO h15 h17 h5 h14 h6 h7 h8 s
    simp only [q6]
    split
    · exact ih
    · rw [qSweep_k _ _ _ _ h15 h17 h5 h14 h6 h7 h8]; exact ih
/-! the end of the hour -/
def oLess (x : Int32) : Int32 := if x ≤ 0 then x else x - 1
theorem oHl_12 (τ : oT) (i : Nat) (j : Nat) : ∀ k, oHl τ i k 12 j 0 = if j = i then oLess (τ 12 j 0) else τ 12 j 0
  | 0 => by
    simp only [oHl]
    unfold oLess
    by_cases e : j = i
    · subst e
      rw [if_pos rfl]
      by_cases c : τ 12 j 0 ≤ 0
      · rw [if_pos c, if_pos c]
      · rw [if_neg c, if_neg c, su_s]
    · rw [if_neg e]
      by_cases c : τ 12 i 0 ≤ 0
      · rw [if_pos c]
      · rw [if_neg c, su_at, if_neg (fun q => e q.1)]
  | k + 1 => by
    have ih := oHl_12 τ i j k
    simp only [oHl]
    split
    · exact ih
    · rw [su_k _ _ _ _ (by decide)]; exact ih
theorem oHl_9 (τ : oT) (i : Nat) (j r : Nat) : ∀ k, oHl τ i k 9 j r = if j = i ∧ r < k then oLess (τ 9 j r) else τ 9 j r
  | 0 => by
    rw [if_neg (fun q => Nat.not_lt_zero _ q.2)]
    simp only [oHl]
    split
    · rfl
    · rw [su_k _ _ _ _ (by decide)]
  | k + 1 => by
    have ih := oHl_9 τ i j r k
    have ik := oHl_9 τ i i k k
    rw [if_neg (fun q => Nat.lt_irrefl _ q.2)] at ik
    simp only [oHl]
    rw [ik]
    by_cases e : j = i ∧ r = k
    · obtain ⟨rfl, rfl⟩ := e
      rw [if_pos (show j = j ∧ r < r + 1 from ⟨rfl, by omega⟩)]
      unfold oLess
      by_cases c : τ 9 j r ≤ 0
      · rw [if_pos c, if_pos c]; exact ik
      · rw [if_neg c, if_neg c, su_s]
    · have e2 : (j = i ∧ r < k + 1) ↔ (j = i ∧ r < k) := by omega
      simp only [e2]
      split
      · exact ih
      · rw [su_at, if_neg e]; exact ih
theorem oHl_k (τ : oT) (i : Nat) {a : Nat} (h : a ≠ 12) (h' : a ≠ 9) : ∀ k, oHl τ i k a = τ a
  | 0 => by
    simp only [oHl]
    split
    · rfl
    · rw [su_k _ _ _ _ h]
  | k + 1 => by
    have ih := oHl_k τ i h h' k
    simp only [oHl]
    split
    · exact ih
    · rw [su_k _ _ _ _ h']; exact ih
theorem oP5_k (τ : oT) {a : Nat} (h : a ≠ 12) (h' : a ≠ 9) : ∀ n, oP5 τ n a = τ a
  | 0 => rfl
  | n + 1 => by
    simp only [oP5]
    rw [oHl_k _ _ h h']; exact oP5_k τ h h' n
theorem oP5_12 (τ : oT) (j : Nat) : ∀ n, oP5 τ n 12 j 0 = if j < n then oLess (τ 12 j 0) else τ 12 j 0
  | 0 => by rw [if_neg (Nat.not_lt_zero _)]; rfl
  | n + 1 => by
    have ih := oP5_12 τ j n
    simp only [oP5]
    rw [oHl_12, ih]
    by_cases e : j = n
    · rw [if_pos e, if_neg (by omega), if_pos (by omega)]
    · rw [if_neg e]
      by_cases c : j < n
      · rw [if_pos c, if_pos (by omega)]
      · rw [if_neg c, if_neg (by omega)]
theorem oP5_9 (τ : oT) (j r : Nat) (hr : r < 6) : ∀ n, oP5 τ n 9 j r = if j < n then oLess (τ 9 j r) else τ 9 j r
  | 0 => by rw [if_neg (Nat.not_lt_zero _)]; rfl
  | n + 1 => by
    have ih := oP5_9 τ j r hr n
    simp only [oP5]
    rw [oHl_9, ih]
    by_cases e : j = n
    · rw [if_pos ⟨e, hr⟩, if_neg (by omega), if_pos (by omega)]
    · rw [if_neg (fun q => e q.1)]
      by_cases c : j < n
      · rw [if_pos c, if_pos (by omega)]
      · rw [if_neg c, if_neg (by omega)]
theorem q7_k (τ : oT) {a : Nat} (h : a ≠ 8) : ∀ n, q7 τ n a = τ a
  | 0 => rfl
  | n + 1 => by
    have ih := q7_k τ h n
    simp only [q7]
    split
    · exact ih
    · rw [su_k _ _ _ _ h]; exact ih
theorem q8_k (τ : oT) {a : Nat} (h : a ≠ 15) : ∀ n, q8 τ n a = τ a
  | 0 => rfl
  | n + 1 => by
    have ih := q8_k τ h n
    simp only [q8]
    split
    · exact ih
    · rw [su_k _ _ _ _ h]; exact ih
theorem q7_8 (τ : oT) (j : Nat) : ∀ n, q7 τ n 8 0 j = if j < n then (if τ 16 0 j = 0 then τ 8 0 j else τ 8 0 j - 1) else τ 8 0 j
  | 0 => by rw [if_neg (Nat.not_lt_zero _)]; rfl
  | n + 1 => by
    have ih := q7_8 τ j n
    have ik := q7_8 τ n n
    rw [if_neg (Nat.lt_irrefl _)] at ik
    simp only [q7]
    rw [q7_k τ (by decide), ik]
    by_cases e : j = n
    · subst e
      rw [if_pos (show j < j + 1 by omega)]
      by_cases c : τ 16 0 j = 0
      · rw [if_pos c, if_pos c]; exact ik
      · rw [if_neg c, if_neg c, su_s]
    · have e2 : j < n + 1 ↔ j < n := by omega
      simp only [e2]
      split
      · exact ih
      · rw [su_at, if_neg (fun q => e q.2)]; exact ih
theorem q8_15 (τ : oT) (j : Nat) : ∀ n, q8 τ n 15 0 j = if j < n then (if ¬ τ 17 0 j = 0 then τ 15 0 j else o_max 0 (τ 15 0 j - 1)) else τ 15 0 j
  | 0 => by rw [if_neg (Nat.not_lt_zero _)]; rfl
  | n + 1 => by
    have ih := q8_15 τ j n
    have ik := q8_15 τ n n
    rw [if_neg (Nat.lt_irrefl _)] at ik
    simp only [q8]
    rw [q8_k τ (by decide), ik]
    by_cases e : j = n
    · subst e
      rw [if_pos (show j < j + 1 by omega)]
      by_cases c : ¬ τ 17 0 j = 0
      · rw [if_pos c, if_pos c]; exact ik
      · rw [if_neg c, if_neg c, su_s]
    · have e2 : j < n + 1 ↔ j < n := by omega
      simp only [e2]
      split
      · exact ih
      · rw [su_at, if_neg (fun q => e q.2)]; exact ih
