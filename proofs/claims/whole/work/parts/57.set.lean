/-! THE TWO MEMORIES SIDE BY SIDE: what is set -/
theorem oPutB_kk (τ : oT) (i b : Nat) {a : Nat} (h6 : a ≠ 6) (h7 : a ≠ 7) (h15 : a ≠ 15) (h16 : a ≠ 16) (h17 : a ≠ 17) : oPutB τ i b a = τ a := by
  unfold oPutB
  rw [sw_k _ _ _ h7, su_k _ _ _ _ h17, oPt_k _ _ _ h6, su_k _ _ _ _ h16, su_k _ _ _ _ h15]
theorem oPt_ne (τ : oT) (i b : Nat) {j : Nat} (a : Nat) (h : j ≠ i) : ∀ k, oPt τ i b k a j = τ a j
  | 0 => rfl
  | k + 1 => by
    rw [oPt, su_ne _ _ _ _ _ h]; exact oPt_ne τ i b a h k
theorem oPutB_ne (τ : oT) (i b : Nat) {j : Nat} (a : Nat) (h : j ≠ i) : oPutB τ i b a j = τ a j := by
  unfold oPutB
  rw [sw_ne _ _ _ _ h, su_ne _ _ _ _ _ h, oPt_ne _ _ _ _ h, su_ne _ _ _ _ _ h, su_ne _ _ _ _ _ h]
theorem oPt_6 (τ : oT) {i b : Nat} (hb : oVB b) : ∀ k, k ≤ oDg b → ∀ p, p < oDg b → oDg b - k ≤ p → oPt τ i b k 6 i p = nI (oTu b p)
  | 0, _, p, h1, h2 => by omega
  | k + 1, hk, p, h1, h2 => by
    have h8 := oDg_8 hb.1
    rw [oPt, su_at]
    by_cases e : p = oDg b - k - 1
    · rw [if_pos ⟨rfl, e⟩]
      have ek : oDg b - 1 - p = k := by omega
      have hl : b / 10 ^ k < 2 ^ 31 := Nat.lt_of_le_of_lt (Nat.div_le_self _ _) (by have := hb.1; omega)
      rw [o_rem_n (a := b / 10 ^ k) (d := 10) rfl (by decide) hl (by decide) (by decide), ← ek]
      exact (oTu_lt hb h1).2
    · rw [if_neg (fun q => e q.2)]
      exact oPt_6 τ hb k (by omega) p h1 (by omega)
theorem oPutB_i (τ : oT) {i b : Nat} (hb : oVB b) : oPutB τ i b 15 i 0 = nI b ∧ oPutB τ i b 16 i 0 = nI (oDg b) ∧ (∀ p, p < oDg b → oPutB τ i b 6 i p = nI (oTu b p)) ∧ oPutB τ i b 17 i 0 = 0 ∧ ∀ u, u < 6 → oPutB τ i b 7 i u = 0 := by
  unfold oPutB
  refine ⟨?_, ?_, fun p hp => ?_, ?_, fun u hu => ?_⟩
  · rw [sw_k _ _ _ (by decide), su_k _ _ _ _ (by decide), oPt_k _ _ _ (by decide), su_k _ _ _ _ (by decide), su_s]
  · rw [sw_k _ _ _ (by decide), su_k _ _ _ _ (by decide), oPt_k _ _ _ (by decide), su_s]
  · rw [sw_k _ _ _ (by decide), su_k _ _ _ _ (by decide)]
    exact oPt_6 _ hb _ (Nat.le_refl _) p hp (by omega)
  · rw [sw_k _ _ _ (by decide), su_s]
  · rw [sw_s]; unfold o_fl; rw [if_pos hu]
theorem qW0_k (τ : oT) (i : Nat) {a : Nat} (h : a ≠ 13) : ∀ k, qW0 τ i k a = τ a
  | 0 => rfl
  | k + 1 => by rw [qW0, su_k _ _ _ _ h]; exact qW0_k τ i h k
theorem qW0_ne (τ : oT) {i j u : Nat} (h : j ≠ i) (hu : u < 6) : ∀ k, k ≤ 6 → qW0 τ i k 13 0 (6 * j + u) = τ 13 0 (6 * j + u)
  | 0, _ => rfl
  | k + 1, hk => by
    rw [qW0, su_at, if_neg (fun q => by have := q.2; omega)]
    exact qW0_ne τ h hu k (by omega)
theorem qW0_i (τ : oT) {i u : Nat} : ∀ k, u < k → qW0 τ i k 13 0 (6 * i + u) = 0
  | 0, h => by omega
  | k + 1, h => by
    rw [qW0, su_at]
    by_cases e : u = k
    · subst e; rw [if_pos ⟨rfl, rfl⟩]
    · rw [if_neg (fun q => by have := q.2; omega)]
      exact qW0_i τ k (by omega)
theorem qW0_b {τ : oT} {i : Nat} (h : bR (τ 13 0) 48 90) : ∀ k, bR (qW0 τ i k 13 0) 48 90
  | 0 => h
  | k + 1 => by rw [qW0]; exact (qW0_b h k).su ⟨0, by omega, rfl⟩
theorem rL.bar {α τ : oT} {ps : Nat → Int32} {nS nO nH M N C i b : Nat} {y : Int32} (h : rL α τ ps nS nO nH M N C) (hi : i < nO) (hb : oVB b) (ey : y = nI b) : rL (oPutB α i b) (mBar τ i y) ps nS nO nH M N C := by
  obtain ⟨hq, hr, hd, hz, he, h1, h2, h3, h4⟩ := h
  obtain ⟨⟨p0, k1, k2, k7, k17, kc, kv⟩, c10, c11, c12, c13, c14, c8, c9, c4, c5, c3, c15⟩ := hr
  obtain ⟨b15, b16, b6, b17, b7⟩ := oPutB_i α (i := i) hb
  have o : ∀ a, a ≠ 6 → a ≠ 7 → a ≠ 15 → a ≠ 16 → a ≠ 17 → oPutB α i b a = α a := fun a g1 g2 g3 g4 g5 => oPutB_kk _ _ _ g1 g2 g3 g4 g5
  have e : ∀ a, a ≠ 11 → a ≠ 12 → a ≠ 13 → mBar τ i y a = τ a := fun a g1 g2 g3 => by
    unfold mBar; rw [qW0_k _ _ g3, su_k _ _ _ _ g2, su_k _ _ _ _ g1]
  have e11 : ∀ j, mBar τ i y 11 0 j = if j = i then nI b else τ 11 0 j := fun j => by
    unfold mBar; rw [qW0_k _ _ (by decide), su_k _ _ _ _ (by decide), su_at, ey]; simp
  have e12 : ∀ j, mBar τ i y 12 0 j = if j = i then 0 else τ 12 0 j := fun j => by
    unfold mBar; rw [qW0_k _ _ (by decide), su_at, su_k _ _ _ _ (show (12 : Nat) ≠ 11 by decide)]; simp
  have e13 : ∀ j u, u < 6 → mBar τ i y 13 0 (6 * j + u) = if j = i then 0 else τ 13 0 (6 * j + u) := fun j u hu => by
    unfold mBar
    by_cases c : j = i
    · subst c; rw [if_pos rfl]; exact qW0_i _ 6 hu
    · rw [if_neg c, qW0_ne _ c hu 6 (Nat.le_refl _), su_k _ _ _ _ (by decide), su_k _ _ _ _ (by decide)]
  have h31 : b < 2 ^ 31 := by have := hb.1; omega
  have eB : ∀ j, qB (mBar τ i y) j = if j = i then b else qB τ j := fun j => by
    unfold qB; rw [e11]
    by_cases c : j = i
    · rw [if_pos c, if_pos c, nI_clamp h31]
    · rw [if_neg c, if_neg c]
  have eP : ∀ j, qP (mBar τ i y) j = if j = i then 0 else qP τ j := fun j => by
    unfold qP; rw [e12]
    by_cases c : j = i
    · rw [if_pos c, if_pos c]; rfl
    · rw [if_neg c, if_neg c]
  have hdg := oDg_pos h31 hb.2.1
  have hq' : qOK (mBar τ i y) nS nO nH := by
    obtain ⟨q1, q2, q3, q4, q5, q6, q7, q8⟩ := hq
    refine ⟨by rw [e 40 (by decide) (by decide) (by decide)]; exact q1, q2, by rw [e 40 (by decide) (by decide) (by decide)]; exact q3, q4, by rw [e 40 (by decide) (by decide) (by decide)]; exact q5, q6, fun s hs => ?_, fun j hj => ?_⟩
    · unfold qNp; rw [e 1 (by decide) (by decide) (by decide)]; exact q7 s hs
    · rw [e11, e12, eB, eP]
      by_cases c : j = i
      · rw [if_pos c, if_pos c, if_pos c, if_pos c]; exact ⟨rfl, hb, rfl, hdg⟩
      · rw [if_neg c, if_neg c, if_neg c, if_neg c]; exact q8 j hj
  refine ⟨hq', ⟨⟨?_, ?_, ?_, fun j hj u hu => ?_, fun j hj => ?_, fun j hj => ?_, rV_of hq'⟩, ?_, ?_, ?_, ?_, ?_, ?_, ?_, ?_, ?_, ?_, fun j hj => ?_⟩, ?_, ?_, ?_, h1, h2, h3, h4⟩
  · rw [o 0 (by decide) (by decide) (by decide) (by decide) (by decide)]; exact p0
  · rw [o 1 (by decide) (by decide) (by decide) (by decide) (by decide), e 2 (by decide) (by decide) (by decide)]; exact k1
  · rw [o 2 (by decide) (by decide) (by decide) (by decide) (by decide), e 3 (by decide) (by decide) (by decide)]; exact k2
  · rw [e13 j u hu]
    by_cases c : j = i
    · subst c; rw [if_pos rfl]; exact b7 u hu
    · rw [if_neg c, oPutB_ne _ _ _ _ c]; exact k7 j hj u hu
  · rw [e12]
    by_cases c : j = i
    · subst c; rw [if_pos rfl]; exact b17
    · rw [if_neg c, oPutB_ne _ _ _ _ c]; exact k17 j hj
  · rw [eB]
    by_cases c : j = i
    · subst c; rw [if_pos rfl]; exact ⟨b16, b6⟩
    · rw [if_neg c, oPutB_ne _ _ _ _ c, oPutB_ne _ _ _ _ c]; exact kc j hj
  · rw [o _ (by decide) (by decide) (by decide) (by decide) (by decide), e _ (by decide) (by decide) (by decide)]; exact c10
  · rw [o _ (by decide) (by decide) (by decide) (by decide) (by decide), e _ (by decide) (by decide) (by decide)]; exact c11
  · rw [o _ (by decide) (by decide) (by decide) (by decide) (by decide), e _ (by decide) (by decide) (by decide)]; exact c12
  · rw [o _ (by decide) (by decide) (by decide) (by decide) (by decide), e _ (by decide) (by decide) (by decide)]; exact c13
  · rw [o _ (by decide) (by decide) (by decide) (by decide) (by decide), e _ (by decide) (by decide) (by decide)]; exact c14
  · rw [o _ (by decide) (by decide) (by decide) (by decide) (by decide), e _ (by decide) (by decide) (by decide)]; exact c8
  · rw [o _ (by decide) (by decide) (by decide) (by decide) (by decide), e _ (by decide) (by decide) (by decide)]; exact c9
  · rw [o _ (by decide) (by decide) (by decide) (by decide) (by decide), e _ (by decide) (by decide) (by decide)]; exact c4
  · rw [o _ (by decide) (by decide) (by decide) (by decide) (by decide), e _ (by decide) (by decide) (by decide)]; exact c5
  · rw [o _ (by decide) (by decide) (by decide) (by decide) (by decide), e _ (by decide) (by decide) (by decide)]; exact c3
  · rw [e11]
    by_cases c : j = i
    · subst c; rw [if_pos rfl]; exact b15
    · rw [if_neg c, oPutB_ne _ _ _ _ c]; exact c15 j hj
  · unfold rD at *
    rw [e 2 (by decide) (by decide) (by decide), e 3 (by decide) (by decide) (by decide), e 8 (by decide) (by decide) (by decide), e 10 (by decide) (by decide) (by decide), e 4 (by decide) (by decide) (by decide), e 15 (by decide) (by decide) (by decide)]
    obtain ⟨d2, d3, d13, dp, d10, d4, d8, d15, dz⟩ := hd
    refine ⟨d2, d3, ?_, dp, d10, d4, d8, d15, dz⟩
    unfold mBar
    refine qW0_b ?_ 6
    rw [su_k _ _ _ _ (by decide), su_k _ _ _ _ (by decide)]; exact d13
  · intro j g1 g2
    obtain ⟨z8, z12, z13, z15⟩ := hz j g1 g2
    rw [e 8 (by decide) (by decide) (by decide), e12, if_neg (by omega), e 15 (by decide) (by decide) (by decide)]
    exact ⟨z8, z12, fun u hu => by rw [e13 j u hu, if_neg (by omega)]; exact z13 u hu, z15⟩
  · unfold rE
    rw [e 14 (by decide) (by decide) (by decide)]; exact he
/-- a new organ -/
theorem rL.add {α τ : oT} {ps : Nat → Int32} {nS nO nH M C : Nat} {x y z : Int32} (h : rL α τ ps nS nO nH M 8 C) (h8 : nO < 8) : rL (su (oPutB (su (oMove α nO x y 0) 13 nO 0 z) nO 1) 18 0 1 (nI (nO + 1))) (mAdd τ nO x y z) ps nS (nO + 1) nH M 8 C := by
  obtain ⟨hq, hr, hd, hz, he, h1, h2, h3, h4⟩ := h
  obtain ⟨⟨p0, k1, k2, k7, k17, kc, kv⟩, c10, c11, c12, c13, c14, c8, c9, c4, c5, c3, c15⟩ := hr
  have hb : oVB 1 := ⟨by decide, by decide, fun k hk => by
    have e1 : oDg 1 = 1 := by decide
    rw [e1] at hk
    obtain rfl : k = 0 := by omega
    decide⟩
  have e1 : oDg 1 = 1 := by decide
  obtain ⟨b15, b16, b6, b17, b7⟩ := oPutB_i (su (oMove α nO x y 0) 13 nO 0 z) (i := nO) hb
  obtain ⟨z8, z12, z13, z15⟩ := hz nO (Nat.le_refl _) h8
  have A : ∀ a, a ≠ 18 → su (oPutB (su (oMove α nO x y 0) 13 nO 0 z) nO 1) 18 0 1 (nI (nO + 1)) a = oPutB (su (oMove α nO x y 0) 13 nO 0 z) nO 1 a := fun a g => su_k _ _ _ _ g
  have o : ∀ a, a ≠ 6 → a ≠ 7 → a ≠ 15 → a ≠ 16 → a ≠ 17 → a ≠ 18 → a ≠ 13 → a ≠ 10 → a ≠ 11 → a ≠ 12 → su (oPutB (su (oMove α nO x y 0) 13 nO 0 z) nO 1) 18 0 1 (nI (nO + 1)) a = α a := fun a g1 g2 g3 g4 g5 g6 g7 g8 g9 g10 => by
    rw [A a g6, oPutB_kk _ _ _ g1 g2 g3 g4 g5, su_k _ _ _ _ g7, oMove_k _ _ _ _ _ g8 g9 g10]
  have on : ∀ a, a ≠ 18 → ∀ j, j ≠ nO → su (oPutB (su (oMove α nO x y 0) 13 nO 0 z) nO 1) 18 0 1 (nI (nO + 1)) a j = α a j := fun a g j hj => by
    rw [A a g, oPutB_ne _ _ _ _ hj, su_ne _ _ _ _ _ hj]
    unfold oMove
    rw [su_ne _ _ _ _ _ hj, su_ne _ _ _ _ _ hj, su_ne _ _ _ _ _ hj]
  have m : ∀ a, a ≠ 6 → a ≠ 7 → a ≠ 9 → a ≠ 11 → a ≠ 40 → mAdd τ nO x y z a = τ a := fun a g1 g2 g3 g4 g5 => by
    unfold mAdd; rw [su_k _ _ _ _ g5, su_k _ _ _ _ g4, su_k _ _ _ _ g3, su_k _ _ _ _ g2, su_k _ _ _ _ g1]
  have m6 : ∀ j, mAdd τ nO x y z 6 0 j = if j = nO then x else τ 6 0 j := fun j => by
    unfold mAdd; rw [su_k _ _ _ _ (by decide), su_k _ _ _ _ (by decide), su_k _ _ _ _ (by decide), su_k _ _ _ _ (by decide), su_at]; simp
  have m7 : ∀ j, mAdd τ nO x y z 7 0 j = if j = nO then y else τ 7 0 j := fun j => by
    unfold mAdd; rw [su_k _ _ _ _ (by decide), su_k _ _ _ _ (by decide), su_k _ _ _ _ (by decide), su_at, su_k _ _ _ _ (show (7 : Nat) ≠ 6 by decide)]; simp
  have m9 : ∀ j, mAdd τ nO x y z 9 0 j = if j = nO then z else τ 9 0 j := fun j => by
    unfold mAdd; rw [su_k _ _ _ _ (by decide), su_k _ _ _ _ (by decide), su_at, su_k _ _ _ _ (show (9 : Nat) ≠ 7 by decide), su_k _ _ _ _ (show (9 : Nat) ≠ 6 by decide)]; simp
  have m11 : ∀ j, mAdd τ nO x y z 11 0 j = if j = nO then 1 else τ 11 0 j := fun j => by
    unfold mAdd; rw [su_k _ _ _ _ (by decide), su_at, su_k _ _ _ _ (show (11 : Nat) ≠ 9 by decide), su_k _ _ _ _ (show (11 : Nat) ≠ 7 by decide), su_k _ _ _ _ (show (11 : Nat) ≠ 6 by decide)]; simp
  have eB : ∀ j, qB (mAdd τ nO x y z) j = if j = nO then 1 else qB τ j := fun j => by
    unfold qB; rw [m11]
    by_cases c : j = nO
    · rw [if_pos c, if_pos c]; decide
    · rw [if_neg c, if_neg c]
  have eP : ∀ j, qP (mAdd τ nO x y z) j = qP τ j := fun j => by
    unfold qP; rw [m 12 (by decide) (by decide) (by decide) (by decide) (by decide)]
  have p0' : qP τ nO = 0 := by unfold qP; rw [z12]; rfl
  have hq' : qOK (mAdd τ nO x y z) nS (nO + 1) nH := by
    obtain ⟨q1, q2, q3, q4, q5, q6, q7, q8⟩ := hq
    refine ⟨?_, q2, ?_, by omega, ?_, q6, fun s hs => ?_, fun j hj => ?_⟩
    · rw [← q1]; unfold mAdd; simp [su]
    · unfold mAdd; rw [su_s]
    · rw [← q5]; unfold mAdd; simp [su]
    · unfold qNp; rw [m 1 (by decide) (by decide) (by decide) (by decide) (by decide)]; exact q7 s hs
    · rw [m11, m 12 (by decide) (by decide) (by decide) (by decide) (by decide), eB, eP]
      by_cases c : j = nO
      · subst c
        rw [if_pos rfl, if_pos rfl, p0', z12]
        exact ⟨rfl, hb, rfl, by rw [e1]; decide⟩
      · rw [if_neg c, if_neg c]; exact q8 j (by omega)
  refine ⟨hq', ⟨⟨?_, ?_, ?_, fun j hj u hu => ?_, fun j hj => ?_, fun j hj => ?_, rV_of hq'⟩, fun j hj => ?_, fun j hj => ?_, fun j hj => ?_, fun j hj => ?_, ?_, ?_, ?_, ?_, ?_, ?_, fun j hj => ?_⟩, ?_, ?_, ?_, h1, h2, by omega, h4⟩
  · rw [o 0 (by decide) (by decide) (by decide) (by decide) (by decide) (by decide) (by decide) (by decide) (by decide) (by decide)]; exact p0
  · rw [o 1 (by decide) (by decide) (by decide) (by decide) (by decide) (by decide) (by decide) (by decide) (by decide) (by decide), m 2 (by decide) (by decide) (by decide) (by decide) (by decide)]; exact k1
  · rw [o 2 (by decide) (by decide) (by decide) (by decide) (by decide) (by decide) (by decide) (by decide) (by decide) (by decide), m 3 (by decide) (by decide) (by decide) (by decide) (by decide)]; exact k2
  · rw [m 13 (by decide) (by decide) (by decide) (by decide) (by decide)]
    by_cases c : j = nO
    · subst c; rw [A _ (by decide), b7 u hu, z13 u hu]
    · rw [on _ (by decide) _ c]; exact k7 j (by omega) u hu
  · rw [m 12 (by decide) (by decide) (by decide) (by decide) (by decide)]
    by_cases c : j = nO
    · subst c; rw [A _ (by decide), b17, z12]
    · rw [on _ (by decide) _ c]; exact k17 j (by omega)
  · rw [eB]
    by_cases c : j = nO
    · subst c; rw [if_pos rfl, A _ (by decide), A _ (by decide)]; exact ⟨b16, b6⟩
    · rw [if_neg c, on _ (by decide) _ c, on _ (by decide) _ c]; exact kc j (by omega)
  · rw [m6]
    by_cases c : j = nO
    · subst c
      rw [if_pos rfl, A _ (by decide), oPutB_kk _ _ _ (by decide) (by decide) (by decide) (by decide) (by decide), su_k _ _ _ _ (by decide)]
      unfold oMove
      rw [su_k _ _ _ _ (by decide), su_k _ _ _ _ (by decide), su_s]
    · rw [if_neg c, on _ (by decide) _ c]; exact c10 j (by omega)
  · rw [m7]
    by_cases c : j = nO
    · subst c
      rw [if_pos rfl, A _ (by decide), oPutB_kk _ _ _ (by decide) (by decide) (by decide) (by decide) (by decide), su_k _ _ _ _ (by decide)]
      unfold oMove
      rw [su_k _ _ _ _ (by decide), su_s]
    · rw [if_neg c, on _ (by decide) _ c]; exact c11 j (by omega)
  · rw [m 8 (by decide) (by decide) (by decide) (by decide) (by decide)]
    by_cases c : j = nO
    · subst c
      rw [z8, A _ (by decide), oPutB_kk _ _ _ (by decide) (by decide) (by decide) (by decide) (by decide), su_k _ _ _ _ (by decide)]
      unfold oMove
      rw [su_s]
    · rw [on _ (by decide) _ c]; exact c12 j (by omega)
  · rw [m9]
    by_cases c : j = nO
    · subst c
      rw [if_pos rfl, A _ (by decide), oPutB_kk _ _ _ (by decide) (by decide) (by decide) (by decide) (by decide), su_s]
    · rw [if_neg c, on _ (by decide) _ c]; exact c13 j (by omega)
  · rw [o _ (by decide) (by decide) (by decide) (by decide) (by decide) (by decide) (by decide) (by decide) (by decide) (by decide), m _ (by decide) (by decide) (by decide) (by decide) (by decide)]; exact c14
  · rw [o _ (by decide) (by decide) (by decide) (by decide) (by decide) (by decide) (by decide) (by decide) (by decide) (by decide), m _ (by decide) (by decide) (by decide) (by decide) (by decide)]; exact c8
  · rw [o _ (by decide) (by decide) (by decide) (by decide) (by decide) (by decide) (by decide) (by decide) (by decide) (by decide), m _ (by decide) (by decide) (by decide) (by decide) (by decide)]; exact c9
  · rw [o _ (by decide) (by decide) (by decide) (by decide) (by decide) (by decide) (by decide) (by decide) (by decide) (by decide), m _ (by decide) (by decide) (by decide) (by decide) (by decide)]; exact c4
  · rw [o _ (by decide) (by decide) (by decide) (by decide) (by decide) (by decide) (by decide) (by decide) (by decide) (by decide), m _ (by decide) (by decide) (by decide) (by decide) (by decide)]; exact c5
  · rw [o _ (by decide) (by decide) (by decide) (by decide) (by decide) (by decide) (by decide) (by decide) (by decide) (by decide), m _ (by decide) (by decide) (by decide) (by decide) (by decide)]; exact c3
  · rw [m11]
    by_cases c : j = nO
    · subst c; rw [if_pos rfl, A _ (by decide), b15]; rfl
    · rw [if_neg c, on _ (by decide) _ c]; exact c15 j (by omega)
  · unfold rD at *
    rw [m 2 (by decide) (by decide) (by decide) (by decide) (by decide), m 3 (by decide) (by decide) (by decide) (by decide) (by decide), m 13 (by decide) (by decide) (by decide) (by decide) (by decide), m 8 (by decide) (by decide) (by decide) (by decide) (by decide), m 10 (by decide) (by decide) (by decide) (by decide) (by decide), m 4 (by decide) (by decide) (by decide) (by decide) (by decide), m 15 (by decide) (by decide) (by decide) (by decide) (by decide)]
    exact hd
  · intro j g1 g2
    rw [m 8 (by decide) (by decide) (by decide) (by decide) (by decide), m 12 (by decide) (by decide) (by decide) (by decide) (by decide), m 13 (by decide) (by decide) (by decide) (by decide) (by decide), m 15 (by decide) (by decide) (by decide) (by decide) (by decide)]
    exact hz j (by omega) g2
  · unfold rE
    rw [m 14 (by decide) (by decide) (by decide) (by decide) (by decide)]; exact he
/-- a new street -/
theorem qT5_ne (τ : oT) {r s u : Nat} (h : s ≠ r) (hu : u < 6) : ∀ k, k ≤ 6 → qT5 τ r k 2 0 (6 * s + u) = τ 2 0 (6 * s + u)
  | 0, _ => rfl
  | k + 1, hk => by
    rw [qT5, su_at, if_neg (fun q => by have := q.2; omega)]
    exact qT5_ne τ h hu k (by omega)
theorem qT5_i (τ : oT) {r u : Nat} : ∀ k, u < k → qT5 τ r k 2 0 (6 * r + u) = 5
  | 0, h => by omega
  | k + 1, h => by
    rw [qT5, su_at]
    by_cases e : u = k
    · subst e; rw [if_pos ⟨rfl, rfl⟩]
    · rw [if_neg (fun q => by have := q.2; omega)]
      exact qT5_i τ k (by omega)
theorem qT5_b {τ : oT} {i : Nat} (h : bR (τ 2 0) 36 9) : ∀ k, bR (qT5 τ i k 2 0) 36 9
  | 0 => h
  | k + 1 => by rw [qT5]; exact (qT5_b h k).su ⟨5, by omega, rfl⟩
theorem rL.build {α τ : oT} {ps : Nat → Int32} {nS nO nH N C m : Nat} {x : Int32} (h : rL α τ ps nS nO nH 6 N C) (h6 : nS < 6) (hx : x = nI m) (hm : m ≤ 20) (h5 : ∀ u, u < 6 → α 1 nS u = 5) : rL (su (su α 3 nS 0 x) 18 0 0 (nI (nS + 1))) (mBuild τ nS x) ps (nS + 1) nO nH 6 N C := by
  obtain ⟨hq, hr, hd, hz, he, h1, h2, h3, h4⟩ := h
  obtain ⟨⟨p0, k1, k2, k7, k17, kc, kv⟩, c10, c11, c12, c13, c14, c8, c9, c4, c5, c3, c15⟩ := hr
  have o : ∀ a, a ≠ 3 → a ≠ 18 → su (su α 3 nS 0 x) 18 0 0 (nI (nS + 1)) a = α a := fun a g1 g2 => by rw [su_k _ _ _ _ g2, su_k _ _ _ _ g1]
  have e : ∀ a, a ≠ 1 → a ≠ 2 → a ≠ 40 → mBuild τ nS x a = τ a := fun a g1 g2 g3 => by
    unfold mBuild; rw [su_k _ _ _ _ g3, qT5_k _ _ _ g2, su_k _ _ _ _ g1]
  have e1 : ∀ j, mBuild τ nS x 1 0 j = if j = nS then x else τ 1 0 j := fun j => by
    unfold mBuild; rw [su_k _ _ _ _ (by decide), qT5_k _ _ _ (by decide), su_at]; simp
  have e2 : ∀ s u, u < 6 → mBuild τ nS x 2 0 (6 * s + u) = if s = nS then 5 else τ 2 0 (6 * s + u) := fun s u hu => by
    unfold mBuild
    rw [su_k _ _ _ _ (by decide)]
    by_cases c : s = nS
    · subst c; rw [if_pos rfl]; exact qT5_i _ 6 hu
    · rw [if_neg c, qT5_ne _ c hu 6 (Nat.le_refl _), su_k _ _ _ _ (by decide)]
  have hq' : qOK (mBuild τ nS x) (nS + 1) nO nH := by
    obtain ⟨q1, q2, q3, q4, q5, q6, q7, q8⟩ := hq
    refine ⟨?_, by omega, ?_, q4, ?_, q6, fun s hs => ?_, fun j hj => ?_⟩
    · unfold mBuild; rw [su_s]
    · rw [← q3]; unfold mBuild; rw [su_at, if_neg (by decide), qT5_k _ _ _ (by decide), su_k _ _ _ _ (by decide)]
    · rw [← q5]; unfold mBuild; rw [su_at, if_neg (by decide), qT5_k _ _ _ (by decide), su_k _ _ _ _ (by decide)]
    · unfold qNp; rw [e1]
      by_cases c : s = nS
      · rw [if_pos c, hx, nI_clamp (by omega)]; exact ⟨rfl, hm⟩
      · rw [if_neg c]; exact q7 s hs
    · unfold qB qP
      rw [e 11 (by decide) (by decide) (by decide), e 12 (by decide) (by decide) (by decide)]; exact q8 j hj
  refine ⟨hq', ⟨⟨?_, fun s hs u hu => ?_, ?_, ?_, ?_, ?_, rV_of hq'⟩, ?_, ?_, ?_, ?_, ?_, ?_, ?_, ?_, ?_, fun s hs => ?_, ?_⟩, ?_, ?_, ?_, by omega, h2, h3, h4⟩
  · rw [o 0 (by decide) (by decide)]; exact p0
  · rw [o 1 (by decide) (by decide), e2 s u hu]
    by_cases c : s = nS
    · subst c; rw [if_pos rfl]; exact h5 u hu
    · rw [if_neg c]; exact k1 s (by omega) u hu
  · rw [o 2 (by decide) (by decide), e 3 (by decide) (by decide) (by decide)]; exact k2
  · rw [o 7 (by decide) (by decide), e 13 (by decide) (by decide) (by decide)]; exact k7
  · rw [o 17 (by decide) (by decide), e 12 (by decide) (by decide) (by decide)]; exact k17
  · unfold rC qB at *
    rw [o 16 (by decide) (by decide), o 6 (by decide) (by decide), e 11 (by decide) (by decide) (by decide)]; exact kc
  · rw [o _ (by decide) (by decide), e _ (by decide) (by decide) (by decide)]; exact c10
  · rw [o _ (by decide) (by decide), e _ (by decide) (by decide) (by decide)]; exact c11
  · rw [o _ (by decide) (by decide), e _ (by decide) (by decide) (by decide)]; exact c12
  · rw [o _ (by decide) (by decide), e _ (by decide) (by decide) (by decide)]; exact c13
  · rw [o _ (by decide) (by decide), e _ (by decide) (by decide) (by decide)]; exact c14
  · rw [o _ (by decide) (by decide), e _ (by decide) (by decide) (by decide)]; exact c8
  · rw [o _ (by decide) (by decide), e _ (by decide) (by decide) (by decide)]; exact c9
  · rw [o _ (by decide) (by decide), e _ (by decide) (by decide) (by decide)]; exact c4
  · rw [o _ (by decide) (by decide), e _ (by decide) (by decide) (by decide)]; exact c5
  · rw [e1, su_k _ _ _ _ (by decide), su_at]
    by_cases c : s = nS
    · rw [if_pos ⟨c, rfl⟩, if_pos c]
    · rw [if_neg (fun q => c q.1), if_neg c]; exact c3 s (by omega)
  · rw [o _ (by decide) (by decide), e _ (by decide) (by decide) (by decide)]; exact c15
  · unfold rD at *
    rw [e 3 (by decide) (by decide) (by decide), e 13 (by decide) (by decide) (by decide), e 8 (by decide) (by decide) (by decide), e 10 (by decide) (by decide) (by decide), e 4 (by decide) (by decide) (by decide), e 15 (by decide) (by decide) (by decide)]
    obtain ⟨d2, d3, d13, dp, d10, d4, d8, d15, dz⟩ := hd
    refine ⟨?_, d3, d13, dp, d10, d4, d8, d15, fun i hi r g1 g2 => dz i hi r (by omega) g2⟩
    unfold mBuild
    rw [su_k _ _ _ _ (by decide)]
    refine qT5_b ?_ 6
    rw [su_k _ _ _ _ (by decide)]; exact d2
  · unfold rZ
    rw [e 8 (by decide) (by decide) (by decide), e 12 (by decide) (by decide) (by decide), e 13 (by decide) (by decide) (by decide), e 15 (by decide) (by decide) (by decide)]; exact hz
  · intro i hi r g1 g2
    rw [e 14 (by decide) (by decide) (by decide)]; exact he i hi r (by omega) g2
/-- passers and tastes set -/
theorem rL.pas {α τ : oT} {ps ps' : Nat → Int32} {nS nO nH N C s k m : Nat} {z : Int32} (h : rL α τ ps nS nO nH 6 N C) (hs : s < 6) (hk : k < 24) (hz : z = nI m) (hm : m ≤ 99) (e : ∀ j, ps' j = if j = 24 * s + k then z else ps j) : rL (su α 0 s k z) τ ps' nS nO nH 6 N C := by
  obtain ⟨hq, hr, hd, hzz, he, h1, h2, h3, h4⟩ := h
  obtain ⟨⟨p0, k1, k2, k7, k17, kc, kv⟩, c10, c11, c12, c13, c14, c8, c9, c4, c5, c3, c15⟩ := hr
  have o : ∀ a, a ≠ 0 → su α 0 s k z a = α a := fun a g => su_k _ _ _ _ g
  refine ⟨hq, ⟨⟨fun r hr' u hu => ?_, ?_, ?_, ?_, ?_, ?_, kv⟩, ?_, ?_, ?_, ?_, ?_, ?_, ?_, ?_, ?_, ?_, ?_⟩, ?_, hzz, he, h1, h2, h3, h4⟩
  · rw [su_at, e]
    by_cases c : r = s ∧ u = k
    · rw [if_pos c, if_pos (by omega)]
    · rw [if_neg c, if_neg (fun q => c (by omega))]; exact p0 r hr' u hu
  · rw [o _ (by decide)]; exact k1
  · rw [o _ (by decide)]; exact k2
  · rw [o _ (by decide)]; exact k7
  · rw [o _ (by decide)]; exact k17
  · unfold rC; rw [o _ (by decide), o _ (by decide)]; exact kc
  · rw [o _ (by decide)]; exact c10
  · rw [o _ (by decide)]; exact c11
  · rw [o _ (by decide)]; exact c12
  · rw [o _ (by decide)]; exact c13
  · rw [o _ (by decide)]; exact c14
  · rw [o _ (by decide)]; exact c8
  · rw [o _ (by decide)]; exact c9
  · rw [o _ (by decide)]; exact c4
  · rw [o _ (by decide)]; exact c5
  · rw [o _ (by decide)]; exact c3
  · rw [o _ (by decide)]; exact c15
  · obtain ⟨d2, d3, d13, dp, d⟩ := hd
    refine ⟨d2, d3, d13, fun j hj => ?_, d⟩
    rw [e]
    split
    · exact ⟨m, hm, hz⟩
    · exact dp j hj
theorem rL.taste {α τ : oT} {ps : Nat → Int32} {nS nO nH M N C s u m : Nat} {z : Int32} (h : rL α τ ps nS nO nH M N C) (hs : s < nS) (hu : u < 6) (hz : z = nI m) (hm : m ≤ 9) : rL (su α 1 s u z) (su τ 2 0 (6 * s + u) z) ps nS nO nH M N C := by
  obtain ⟨hq, hr, hd, hzz, he, h1, h2, h3, h4⟩ := h
  obtain ⟨⟨p0, k1, k2, k7, k17, kc, kv⟩, c10, c11, c12, c13, c14, c8, c9, c4, c5, c3, c15⟩ := hr
  have o : ∀ a, a ≠ 1 → su α 1 s u z a = α a := fun a g => su_k _ _ _ _ g
  have e : ∀ a, a ≠ 2 → su τ 2 0 (6 * s + u) z a = τ a := fun a g => su_k _ _ _ _ g
  have hq' : qOK (su τ 2 0 (6 * s + u) z) nS nO nH := hq.of ⟨e 1 (by decide), e 11 (by decide), e 12 (by decide), e 40 (by decide)⟩
  refine ⟨hq', ⟨⟨?_, rB.su k1 s hu rfl, ?_, ?_, ?_, ?_, rV_of hq'⟩, ?_, ?_, ?_, ?_, ?_, ?_, ?_, ?_, ?_, ?_, ?_⟩, ?_, ?_, ?_, h1, h2, h3, h4⟩
  · rw [o _ (by decide)]; exact p0
  · rw [o _ (by decide), e _ (by decide)]; exact k2
  · rw [o _ (by decide), e _ (by decide)]; exact k7
  · rw [o _ (by decide), e _ (by decide)]; exact k17
  · unfold rC qB at *; rw [o _ (by decide), o _ (by decide), e _ (by decide)]; exact kc
  · rw [o _ (by decide), e _ (by decide)]; exact c10
  · rw [o _ (by decide), e _ (by decide)]; exact c11
  · rw [o _ (by decide), e _ (by decide)]; exact c12
  · rw [o _ (by decide), e _ (by decide)]; exact c13
  · rw [o _ (by decide), e _ (by decide)]; exact c14
  · rw [o _ (by decide), e _ (by decide)]; exact c8
  · rw [o _ (by decide), e _ (by decide)]; exact c9
  · rw [o _ (by decide), e _ (by decide)]; exact c4
  · rw [o _ (by decide), e _ (by decide)]; exact c5
  · rw [o _ (by decide), e _ (by decide)]; exact c3
  · rw [o _ (by decide), e _ (by decide)]; exact c15
  · unfold rD at *
    rw [e 3 (by decide), e 13 (by decide), e 8 (by decide), e 10 (by decide), e 4 (by decide), e 15 (by decide)]
    exact ⟨hd.1.su ⟨m, hm, hz⟩, hd.2⟩
  · unfold rZ
    rw [e 8 (by decide), e 12 (by decide), e 13 (by decide), e 15 (by decide)]; exact hzz
  · unfold rE
    rw [e 14 (by decide)]; exact he
