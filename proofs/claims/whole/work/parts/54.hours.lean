/-! THE TWO MEMORIES SIDE BY SIDE: an hour -/
def rR (α τ : oT) (ps : Nat → Int32) (nS nO M N : Nat) : Prop := rK α τ ps nS nO M ∧ rA (α 10) (τ 6) nO ∧ rA (α 11) (τ 7) nO ∧ rA (α 12) (τ 8) nO ∧ rA (α 13) (τ 9) nO ∧ rA (α 14) (τ 10) N ∧ rB (α 8) (τ 14) N ∧ rB (α 9) (τ 15) N ∧ rA (α 4) (τ 4) M ∧ rA (α 5) (τ 5) M ∧ rA (α 3) (τ 1) nS ∧ rA (α 15) (τ 11) nO
/-- numbers in their bounds -/
def bR (f : Nat → Int32) (N B : Nat) : Prop := ∀ k, k < N → ∃ n, n ≤ B ∧ f k = nI n
def rD (τ : oT) (ps : Nat → Int32) (C nS : Nat) : Prop := bR (τ 2 0) 36 9 ∧ bR (τ 3 0) 36 9 ∧ bR (τ 13 0) 48 90 ∧ bR ps 144 99 ∧ bR (τ 10 0) 8 C ∧ bR (τ 4 0) 6 C ∧ bR (τ 8 0) 8 20 ∧ bR (τ 15 0) 48 24 ∧ ∀ i, i < 8 → ∀ r, nS ≤ r → r < 6 → τ 15 0 (6 * i + r) = 0
theorem bR.su {τ : oT} {k N B j : Nat} {x : Int32} (h : bR (τ k 0) N B) (hx : ∃ n, n ≤ B ∧ x = nI n) : bR (su τ k 0 j x k 0) N B := by
  intro c hc
  rw [su_at]
  split
  · exact hx
  · exact h c hc
theorem bR.mono {f : Nat → Int32} {N B B' : Nat} (h : bR f N B) (hb : B ≤ B') : bR f N B' := fun k hk => by
  obtain ⟨n, h1, h2⟩ := h k hk
  exact ⟨n, by omega, h2⟩
theorem rR.w {α τ : oT} {ps : Nat → Int32} {nS nO M N : Nat} (h : rR α τ ps nS nO M N) : rW α τ nO := fun i hi => ⟨h.2.1 i hi, h.2.2.1 i hi, by rw [h.2.2.2.1 i hi], h.2.2.2.2.1 i hi⟩
theorem rR.np {α τ : oT} {ps : Nat → Int32} {nS nO M N s : Nat} (h : rR α τ ps nS nO M N) (hs : s < nS) : oNp α s = qNp τ s := by
  unfold oNp qNp
  rw [h.2.2.2.2.2.2.2.2.2.2.1 s hs]
theorem q1_k (τ : oT) {a : Nat} (h : a ≠ 16) : ∀ n, q1 τ n a = τ a
  | 0 => rfl
  | n + 1 => by
    simp only [q1]
    rw [su_k _ _ _ _ h]; exact q1_k τ h n
theorem q2_k (τ : oT) {a : Nat} (h : a ≠ 17) : ∀ n, q2 τ n a = τ a
  | 0 => rfl
  | n + 1 => by
    simp only [q2]
    rw [su_k _ _ _ _ h]; exact q2_k τ h n
theorem q1_16 (τ : oT) (j : Nat) : ∀ n, j < n → q1 τ n 16 0 j = bI (!decide (τ 8 0 j ≤ 0))
  | 0, h => by omega
  | n + 1, h => by
    simp only [q1]
    rw [su_at, q1_k τ (by decide)]
    by_cases e : j = n
    · subst e; rw [if_pos ⟨rfl, rfl⟩]
    · rw [if_neg (fun q => e q.2)]; exact q1_16 τ j n (by omega)
theorem q2_17 (τ : oT) (j : Nat) : ∀ n, j < n → q2 τ n 17 0 j = 0
  | 0, h => by omega
  | n + 1, h => by
    simp only [q2]
    rw [su_at]
    by_cases e : j = n
    · subst e; rw [if_pos ⟨rfl, rfl⟩]
    · rw [if_neg (fun q => e q.2)]; exact q2_17 τ j n (by omega)
theorem qH2_k (τ : oT) (n : Nat) {a : Nat} (h : a ≠ 16) (h' : a ≠ 17) : qH2 τ n a = τ a := by
  unfold qH2
  rw [q2_k _ h', q1_k _ h]
theorem qH2_16 (τ : oT) {n j : Nat} (h : j < n) : qH2 τ n 16 0 j = bI (!decide (τ 8 0 j ≤ 0)) := by
  unfold qH2
  rw [q2_k _ (by decide)]; exact q1_16 τ j n h
/-- the class's hour, from its barrels on -/
theorem oA5_k (A : oT) (nS nO s n : Nat) {a : Nat} (h12 : a ≠ 12) (h9 : a ≠ 9) (h5 : a ≠ 5) (h10 : a ≠ 10) (h11 : a ≠ 11) (h8 : a ≠ 8) : oP5 (oP4 A nS nO s) n a = A a := by
  rw [oP5_k _ h12 h9, oP4_k _ _ _ h9 h5 h10 h11 h12 h8]
theorem qT8_k (T : oT) (nS nO s n m : Nat) {a : Nat} (h15 : a ≠ 15) (h17 : a ≠ 17) (h5 : a ≠ 5) (h14 : a ≠ 14) (h6 : a ≠ 6) (h7 : a ≠ 7) (h8 : a ≠ 8) : q8 (q7 (q6 T nS nO s) n) m a = T a := by
  rw [q8_k _ h15, q7_k _ h8, q6_k _ _ _ h15 h17 h5 h14 h6 h7 h8]
theorem oLess_n (n : Nat) (h : n < 2 ^ 31) : oLess (nI n) = nI (n - 1) := by
  unfold oLess
  match n, h with
  | 0, _ => rfl
  | n + 1, h => rw [if_neg (nI_nle (by omega) h), nI_pred]; rfl
theorem o_max_n (n : Nat) (h : n < 2 ^ 31) : o_max 0 (nI n - 1) = nI (n - 1) := by
  match n, h with
  | 0, _ => decide
  | n + 1, h =>
    rw [nI_pred]
    unfold o_max
    show (if 0 < nI n then nI n else 0) = nI n
    by_cases c : (0 : Int32) < nI n
    · rw [if_pos c]
    · rw [if_neg c]
      have : nI n ≤ 0 := Int32.not_lt.mp c
      rw [o_le0 rfl (by omega)] at this
      rw [this]; rfl
theorem bR_k {f g : Nat → Int32} {N B : Nat} (h : bR f N B) (e : g = f) : bR g N B := by rw [e]; exact h
theorem qS2_15 {τ : oT} {nO s : Nat} (h : bR (τ 15 0) 48 24) : bR (qS2 τ nO s 15 0) 48 24 := by
  unfold qS2
  rw [qZc_k _ _ (by decide)]
  unfold qS1
  rw [su_k _ _ _ _ (show (15 : Nat) ≠ 5 by decide), su_k _ _ _ _ (show (15 : Nat) ≠ 17 by decide)]
  exact h.su ⟨24, by omega, rfl⟩
theorem qSweep_15 (τ : oT) (nS nO s : Nat) : qSweep τ nS nO s 15 = qS2 τ nO s 15 := by
  unfold qSweep
  split
  · rfl
  · split
    · rfl
    · rw [su_k _ _ _ _ (by decide), su_k _ _ _ _ (by decide), su_k _ _ _ _ (by decide)]
theorem q6_15 {τ : oT} {nS nO : Nat} (h : bR (τ 15 0) 48 24) {s : Nat} : bR (q6 τ nS nO s 15 0) 48 24 := by
  induction s with
  | zero => exact h
  | succ s ih =>
    simp only [q6]
    split
    · exact ih
    · rw [qSweep_15]; exact qS2_15 ih
/-- no banishment from a street that isn't there -/
theorem q6_15z {τ : oT} {nS nO : Nat} (hS : nS ≤ 6) (h : ∀ i, i < 8 → ∀ r, nS ≤ r → r < 6 → τ 15 0 (6 * i + r) = 0) : ∀ s, s ≤ nS → ∀ i, i < 8 → ∀ r, nS ≤ r → r < 6 → q6 τ nS nO s 15 0 (6 * i + r) = 0
  | 0, _ => h
  | s + 1, hs => by
    have ih := q6_15z (nO := nO) hS h s (by omega)
    simp only [q6]
    split
    · exact ih
    · intro i hi r h1 h2
      rw [qSweep_15]
      unfold qS2
      rw [qZc_k _ _ (by decide)]
      unfold qS1
      rw [su_k _ _ _ _ (show (15 : Nat) ≠ 5 by decide), su_k _ _ _ _ (show (15 : Nat) ≠ 17 by decide), su_at, if_neg (by omega)]
      exact ih i hi r h1 h2
theorem q6_8 (τ : oT) (nS nO : Nat) (j : Nat) : ∀ s, q6 τ nS nO s 8 0 j = τ 8 0 j ∨ q6 τ nS nO s 8 0 j = 2
  | 0 => Or.inl rfl
  | s + 1 => by
    have ih := q6_8 τ nS nO j s
    have e : ∀ σ : oT, qS2 σ nO s 8 = σ 8 := fun σ => qS2_k _ _ _ (by decide) (by decide) (by decide) (by decide)
    simp only [q6]
    split
    · exact ih
    · unfold qSweep
      split
      · rw [e]; exact ih
      · split
        · rw [e]; exact ih
        · rw [su_at]
          split
          · exact Or.inr rfl
          · rw [su_k _ _ _ _ (by decide), su_k _ _ _ _ (by decide), e]; exact ih
theorem o_worth : ∀ a, a < 10 → ∀ b, b < 10 → ∀ c, c < 10 → o_max 0 (nI a - nI b - nI c) = nI (a - b - c) := by decide +kernel
theorem qCoin_b {T : oT} {ps : Nat → Int32} {w s nH : Nat} (h2 : bR (T 2 0) 36 9) (h3 : bR (T 3 0) 36 9) (h13 : bR (T 13 0) 48 90) (hp : bR ps 144 99) (hw : w < 8) (hs : s < 6) (ht : qTu T w < 6) : ∃ n, n ≤ 89 ∧ qCoin T ps w s nH = nI n := by
  obtain ⟨a, a1, a2⟩ := h2 (6 * s + qTu T w) (by omega)
  obtain ⟨b, b1, b2⟩ := h3 (6 * s + qTu T w) (by omega)
  obtain ⟨c, c1, c2⟩ := h13 (6 * w + qTu T w) (by omega)
  have hm := Nat.mod_lt nH (show 24 > 0 by decide)
  obtain ⟨p, p1, p2⟩ := hp (24 * s + nH % 24) (by omega)
  refine ⟨p * (a - b - c / 10) / 10, ?_, ?_⟩
  · have : p * (a - b - c / 10) ≤ 99 * 9 := Nat.mul_le_mul p1 (by omega)
    omega
  · have h9 : p * (a - b - c / 10) ≤ 99 * 9 := Nat.mul_le_mul p1 (by omega)
    unfold qCoin
    rw [a2, b2, c2, p2, o_div_n (x := nI c) (a := c) (d := 10) rfl (by decide) (by omega) (by decide) (by decide), o_worth a (by omega) b (by omega) (c / 10) (by omega), pk_mul]
    exact o_div_n rfl (by decide) (by omega) (by decide) (by decide)
/-- coins and gifts grow by 89 at most at a pitch -/
def bI2 (T T0 : oT) (D : Nat) : Prop := (∀ i, i < 8 → ∃ d, d ≤ D ∧ T 10 0 i = T0 10 0 i + nI d) ∧ ∀ s, s < 6 → ∃ d, d ≤ D ∧ T 4 0 s = T0 4 0 s + nI d
theorem bI2.rf (T : oT) : bI2 T T 0 := ⟨fun i _ => ⟨0, Nat.le_refl 0, (Int32.add_zero _).symm⟩, fun i _ => ⟨0, Nat.le_refl 0, (Int32.add_zero _).symm⟩⟩
theorem bI2.mono {T T0 : oT} {D D' : Nat} (h : bI2 T T0 D) (hd : D ≤ D') : bI2 T T0 D' := ⟨fun i hi => by
  obtain ⟨d, a, b⟩ := h.1 i hi
  exact ⟨d, by omega, b⟩, fun i hi => by
  obtain ⟨d, a, b⟩ := h.2 i hi
  exact ⟨d, by omega, b⟩⟩
theorem bI2.of {T T' T0 T0' : oT} {D : Nat} (h : bI2 T T0 D) (h10 : T' 10 = T 10) (h4 : T' 4 = T 4) (k10 : T0' 10 = T0 10) (k4 : T0' 4 = T0 4) : bI2 T' T0' D := by
  unfold bI2
  rw [h10, h4, k10, k4]; exact h
theorem bI2.tr {T T1 T0 : oT} {D E : Nat} (h : bI2 T T1 D) (h' : bI2 T1 T0 E) : bI2 T T0 (E + D) := ⟨fun i hi => by
  obtain ⟨d, a, b⟩ := h.1 i hi
  obtain ⟨e, c, f⟩ := h'.1 i hi
  exact ⟨e + d, by omega, by rw [b, f, Int32.add_assoc, nI_add]⟩, fun i hi => by
  obtain ⟨d, a, b⟩ := h.2 i hi
  obtain ⟨e, c, f⟩ := h'.2 i hi
  exact ⟨e + d, by omega, by rw [b, f, Int32.add_assoc, nI_add]⟩⟩
theorem qListen_b {T : oT} {ps : Nat → Int32} {nO s nH : Nat} {y : Int32} (h2 : bR (T 2 0) 36 9) (h3 : bR (T 3 0) 36 9) (h13 : bR (T 13 0) 48 90) (hp : bR ps 144 99) (hv : rV T nO) (hn : nO ≤ 8) (hs : s < 6) : bI2 (qListen T ps nO s nH y) T 89 := by
  unfold qListen
  refine bI2.of (T := qL1 T ps nO s nH y) (T0 := T) ?_ (qL2_k _ _ _ _ _ (by decide) _) (qL2_k _ _ _ _ _ (by decide) _) rfl rfl
  unfold qL1
  by_cases c : qHeard T nO (nI s) y < 0
  · rw [if_pos c]
    exact (bI2.rf T).mono (by omega)
  · rw [if_neg c]
    obtain ⟨-, hl⟩ := qHeard_in (by omega) c
    generalize (qHeard T nO (nI s) y).toNatClampNeg = w at hl ⊢
    obtain ⟨d, d1, d2⟩ := qCoin_b (nH := nH) h2 h3 h13 hp (show w < 8 by omega) hs (oTu_lt (hv w hl).2.1 (hv w hl).2.2).1
    rw [d2]
    constructor
    · intro i hi
      rw [su_k _ _ _ _ (show (10 : Nat) ≠ 4 by decide), su_at]
      by_cases e : i = w
      · subst e; exact ⟨d, d1, by rw [if_pos ⟨rfl, rfl⟩]⟩
      · exact ⟨0, by omega, by rw [if_neg (fun q => e q.2)]; exact (Int32.add_zero _).symm⟩
    · intro i hi
      rw [su_at, su_k _ _ _ _ (show (4 : Nat) ≠ 10 by decide)]
      by_cases e : i = s
      · subst e; exact ⟨d, d1, by rw [if_pos ⟨rfl, rfl⟩]⟩
      · exact ⟨0, by omega, by rw [if_neg (fun q => e q.2)]; exact (Int32.add_zero _).symm⟩
theorem q3s_b {T : oT} {ps : Nat → Int32} {nO s nH : Nat} (h2 : bR (T 2 0) 36 9) (h3 : bR (T 3 0) 36 9) (h13 : bR (T 13 0) 48 90) (hp : bR ps 144 99) (hv : rV T nO) (hn : nO ≤ 8) (hs : s < 6) : ∀ k, bI2 (q3s T ps nO s nH k) T (89 * k)
  | 0 => bI2.rf T
  | k + 1 => by
    have ih := q3s_b (nH := nH) h2 h3 h13 hp hv hn hs k
    simp only [q3s]
    rw [show 89 * (k + 1) = 89 * k + 89 by omega]
    refine bI2.tr (qListen_b ?_ ?_ ?_ hp ?_ hn hs) ih
    · rw [q3s_k _ _ _ _ _ (by decide) (by decide) (by decide)]; exact h2
    · rw [q3s_k _ _ _ _ _ (by decide) (by decide) (by decide)]; exact h3
    · rw [q3s_k _ _ _ _ _ (by decide) (by decide) (by decide)]; exact h13
    · unfold rV qP qB at *
      rw [q3s_k _ _ _ _ _ (by decide) (by decide) (by decide), q3s_k _ _ _ _ _ (by decide) (by decide) (by decide)]; exact hv
theorem q3_b {T : oT} {ps : Nat → Int32} {nO nH : Nat} (h2 : bR (T 2 0) 36 9) (h3 : bR (T 3 0) 36 9) (h13 : bR (T 13 0) 48 90) (hp : bR ps 144 99) (hv : rV T nO) (hn : nO ≤ 8) (hN : ∀ s, s < 6 → qNp T s ≤ 20) : ∀ s, s ≤ 6 → bI2 (q3 T ps nO nH s) T (1780 * s)
  | 0, _ => bI2.rf T
  | s + 1, hs => by
    have ih := q3_b (nH := nH) h2 h3 h13 hp hv hn hN s (by omega)
    have e1 : qNp (q3 T ps nO nH s) s ≤ 20 := by
      unfold qNp
      rw [q3_k _ _ _ _ (by decide) (by decide) (by decide)]
      exact hN s (by omega)
    simp only [q3]
    have h9 := q3s_b (T := q3 T ps nO nH s) (s := s) (nH := nH) (by rw [q3_k _ _ _ _ (by decide) (by decide) (by decide)]; exact h2) (by rw [q3_k _ _ _ _ (by decide) (by decide) (by decide)]; exact h3) (by rw [q3_k _ _ _ _ (by decide) (by decide) (by decide)]; exact h13) hp (by
      unfold rV qP qB at *
      rw [q3_k _ _ _ _ (by decide) (by decide) (by decide), q3_k _ _ _ _ (by decide) (by decide) (by decide)]; exact hv) hn (by omega) (qNp (q3 T ps nO nH s) s)
    rw [show 1780 * (s + 1) = 1780 * s + 1780 by omega]
    exact bI2.tr (h9.mono (by omega)) ih
/-- an hour's coins -/
theorem qHour_up {τ : oT} {ps : Nat → Int32} {nS nO nH C : Nat} (hS : nS ≤ 6) (hn : nO ≤ 8) (hq : qOK τ nS nO nH) (hd : rD τ ps C nS) : bI2 (qHour τ ps nS nO nH) τ 10680 := by
  obtain ⟨d2, d3, d13, dp, -⟩ := hd
  have hq2 : qOK (qH2 τ nO) nS nO nH := (hq.of (q1_kp _ _)).of (q2_kp _ _)
  have h9 := q3_b (T := qH2 τ nO) (ps := ps) (nO := nO) (nH := nH) (by rw [qH2_k _ _ (by decide) (by decide)]; exact d2) (by rw [qH2_k _ _ (by decide) (by decide)]; exact d3) (by rw [qH2_k _ _ (by decide) (by decide)]; exact d13) dp (rV_of hq2) hn (fun s hs => (hq2.2.2.2.2.2.2.1 s hs).2) nS hS
  have e : ∀ a, a ≠ 40 → a ≠ 15 → a ≠ 8 → a ≠ 17 → a ≠ 5 → a ≠ 14 → a ≠ 6 → a ≠ 7 → a ≠ 13 → a ≠ 12 → a ≠ 3 → qHour τ ps nS nO nH a = q3 (qH2 τ nO) ps nO nH nS a := fun a g1 g2 g3 g4 g5 g6 g7 g8 g9 g10 g11 => by
    unfold qHour qH8 qH6; rw [su_k _ _ _ _ g1, qT8_k _ _ _ _ _ _ g2 g4 g5 g6 g7 g8 g3]
    unfold qH5 qH4 qH3; rw [q5_k _ g9 g10, q4_k _ _ g11]
  exact (bI2.of h9 (e 10 (by decide) (by decide) (by decide) (by decide) (by decide) (by decide) (by decide) (by decide) (by decide) (by decide) (by decide)) (e 4 (by decide) (by decide) (by decide) (by decide) (by decide) (by decide) (by decide) (by decide) (by decide) (by decide) (by decide)) (qH2_k τ nO (by decide) (by decide)).symm (qH2_k τ nO (by decide) (by decide)).symm).mono (by omega)
theorem bI2.c {T T0 : oT} {D C : Nat} (h : bI2 T T0 D) (h10 : bR (T0 10 0) 8 C) (h4 : bR (T0 4 0) 6 C) : bR (T 10 0) 8 (C + D) ∧ bR (T 4 0) 6 (C + D) := ⟨fun i hi => by
  obtain ⟨d, a, b⟩ := h.1 i hi
  obtain ⟨n, c, e⟩ := h10 i hi
  exact ⟨n + d, by omega, by rw [b, e, nI_add]⟩, fun i hi => by
  obtain ⟨d, a, b⟩ := h.2 i hi
  obtain ⟨n, c, e⟩ := h4 i hi
  exact ⟨n + d, by omega, by rw [b, e, nI_add]⟩⟩
theorem o_tire1 : ∀ a, a < 10 → ∃ n, n ≤ 9 ∧ o_min 9 (nI a + 2) = nI n := fun a ha => ⟨min 9 (a + 2), by omega, by
  revert a; decide +kernel⟩
theorem o_tire0 : ∀ a, a < 10 → ∃ n, n ≤ 9 ∧ o_max 0 (nI a - 1) = nI n := fun a ha => ⟨a - 1, by omega, o_max_n a (by omega)⟩
theorem q4s_b {T : oT} {nO s : Nat} (hs : s < 6) (h : bR (T 3 0) 36 9) : ∀ u, u ≤ 6 → bR (q4s T nO s u 3 0) 36 9
  | 0, _ => h
  | u + 1, hu => by
    have ih := q4s_b (nO := nO) hs h u (by omega)
    simp only [q4s, qTire]
    obtain ⟨n, n1, n2⟩ := ih (6 * s + u) (by omega)
    rw [n2]
    split
    · exact ih.su (o_tire1 n (by omega))
    · exact ih.su (o_tire0 n (by omega))
theorem q4_b {T : oT} {nO : Nat} (h : bR (T 3 0) 36 9) : ∀ s, s ≤ 6 → bR (q4 T nO s 3 0) 36 9
  | 0, _ => h
  | s + 1, hs => by
    simp only [q4]
    exact q4s_b (by omega) (q4_b h s (by omega)) 6 (Nat.le_refl _)
theorem o_wear : ∀ a, a < 91 → o_min 90 (nI a + 1) = nI (min 90 (a + 1)) := by decide +kernel
theorem q5_b {T : oT} {nS nO nH : Nat} (hq : qOK T nS nO nH) (hn : nO ≤ 8) (h : bR (T 13 0) 48 90) : ∀ i, i ≤ nO → bR (q5 T i 13 0) 48 90
  | 0, _ => h
  | i + 1, hi => by
    have ih := q5_b hq hn h i (by omega)
    simp only [q5]
    split
    · exact ih
    · have hv := rV_of (q5_ok hq i (by omega)) i (by omega)
      have ht : qTu (q5 T i) i < 6 := (oTu_lt hv.2.1 hv.2.2).1
      unfold qTurn
      rw [su_k _ _ _ _ (by decide)]
      unfold qT1
      obtain ⟨n, n1, n2⟩ := ih (6 * i + qTu (q5 T i) i) (by omega)
      refine ih.su ⟨min 90 (n + 1), by omega, ?_⟩
      rw [n2]; exact o_wear n (by omega)
theorem rHourD {τ : oT} {ps : Nat → Int32} {nS nO nH C : Nat} (hS : nS ≤ 6) (hn : nO ≤ 8) (hq : qOK τ nS nO nH) (hd : rD τ ps C nS) : rD (qHour τ ps nS nO nH) ps (C + 10680) nS := by
  have hd0 := hd
  obtain ⟨d2, d3, d13, dp, d10, d4, d8, d15, dz⟩ := hd
  have hqT4 : qOK (qH4 τ ps nS nO nH) nS nO nH := (hq.of (q1_kp _ _)).of (q2_kp _ _) |>.of (q3_kp _ _ _ _ _) |>.of (q4_kp _ _ _)
  have hq2 : qOK (qH2 τ nO) nS nO nH := (hq.of (q1_kp _ _)).of (q2_kp _ _)
  have e8 : ∀ a, a ≠ 40 → a ≠ 15 → a ≠ 8 → a ≠ 17 → a ≠ 5 → a ≠ 14 → a ≠ 6 → a ≠ 7 → qHour τ ps nS nO nH a = qH5 τ ps nS nO nH a := fun a g1 g2 g3 g4 g5 g6 g7 g8 => by
    unfold qHour qH8 qH6; rw [su_k _ _ _ _ g1, qT8_k _ _ _ _ _ _ g2 g4 g5 g6 g7 g8 g3]
  have e5 : ∀ a, a ≠ 13 → a ≠ 12 → a ≠ 3 → qH5 τ ps nS nO nH a = qH3 τ ps nS nO nH a := fun a g1 g2 g3 => by
    unfold qH5 qH4; rw [q5_k _ g1 g2, q4_k _ _ g3]
  have e3 : ∀ a, a ≠ 10 → a ≠ 4 → a ≠ 14 → a ≠ 16 → a ≠ 17 → qH3 τ ps nS nO nH a = τ a := fun a g1 g2 g3 g4 g5 => by
    unfold qH3; rw [q3_k _ _ _ _ g1 g2 g3, qH2_k _ _ g4 g5]
  have bc := (qHour_up hS hn hq hd0).c d10 d4
  refine ⟨?_, ?_, ?_, dp, ?_, ?_, fun j hj => ?_, fun j hj => ?_, fun i hi r h1 h2 => ?_⟩
  · rw [e8 _ (by decide) (by decide) (by decide) (by decide) (by decide) (by decide) (by decide) (by decide), e5 _ (by decide) (by decide) (by decide), e3 _ (by decide) (by decide) (by decide) (by decide) (by decide)]; exact d2
  · rw [e8 _ (by decide) (by decide) (by decide) (by decide) (by decide) (by decide) (by decide) (by decide)]
    unfold qH5
    rw [q5_k _ (by decide) (by decide)]
    unfold qH4
    refine q4_b ?_ nS hS
    rw [e3 _ (by decide) (by decide) (by decide) (by decide) (by decide)]; exact d3
  · rw [e8 _ (by decide) (by decide) (by decide) (by decide) (by decide) (by decide) (by decide) (by decide)]
    unfold qH5
    refine q5_b hqT4 hn ?_ nO (Nat.le_refl _)
    unfold qH4
    rw [q4_k _ _ (by decide), e3 _ (by decide) (by decide) (by decide) (by decide) (by decide)]; exact d13
  · exact bc.1
  · exact bc.2
  · obtain ⟨n, n1, n2⟩ := d8 j hj
    have t8 : qH5 τ ps nS nO nH 8 = τ 8 := by rw [e5 _ (by decide) (by decide) (by decide), e3 _ (by decide) (by decide) (by decide) (by decide) (by decide)]
    have f8 : qH6 τ ps nS nO nH 8 0 j = nI n ∨ qH6 τ ps nS nO nH 8 0 j = 2 := by
      have := q6_8 (qH5 τ ps nS nO nH) nS nO j nS
      rw [t8, n2] at this
      exact this
    have e2 : qHour τ ps nS nO nH 8 0 j = if j < nO then (if qH6 τ ps nS nO nH 16 0 j = 0 then qH6 τ ps nS nO nH 8 0 j else qH6 τ ps nS nO nH 8 0 j - 1) else qH6 τ ps nS nO nH 8 0 j := by
      unfold qHour qH8; rw [su_k _ _ _ _ (by decide), q8_k _ (by decide), q7_8]
    have hb : ∃ m, m ≤ 20 ∧ qH6 τ ps nS nO nH 8 0 j = nI m := by
      rcases f8 with f | f
      · exact ⟨n, n1, f⟩
      · exact ⟨2, by omega, f⟩
    rw [e2]
    by_cases c : j < nO
    · rw [if_pos c]
      by_cases c2 : qH6 τ ps nS nO nH 16 0 j = 0
      · rw [if_pos c2]; exact hb
      · rw [if_neg c2]
        have f16 : qH6 τ ps nS nO nH 16 0 j = bI (!decide (τ 8 0 j ≤ 0)) := by
          unfold qH6
          rw [q6_k _ _ _ (by decide) (by decide) (by decide) (by decide) (by decide) (by decide) (by decide), e5 _ (by decide) (by decide) (by decide)]
          unfold qH3
          rw [q3_k _ _ _ _ (by decide) (by decide) (by decide), qH2_16 τ c]
        have hp : 0 < n := by
          rcases Nat.eq_zero_or_pos n with e | e
          · subst e
            rw [f16, n2] at c2
            exact absurd (by decide) c2
          · exact e
        rcases f8 with f | f
        · rw [f]
          obtain ⟨m, rfl⟩ : ∃ m, n = m + 1 := ⟨n - 1, by omega⟩
          exact ⟨m, by omega, nI_pred m⟩
        · rw [f]; exact ⟨1, by omega, by decide⟩
    · rw [if_neg c]; exact hb
  · have e2 : qHour τ ps nS nO nH 15 0 j = if j < 48 then (if ¬ qH6 τ ps nS nO nH 17 0 j = 0 then qH6 τ ps nS nO nH 15 0 j else o_max 0 (qH6 τ ps nS nO nH 15 0 j - 1)) else qH6 τ ps nS nO nH 15 0 j := by
      unfold qHour qH8; rw [su_k _ _ _ _ (by decide), q8_15, q7_k _ (by decide), q7_k _ (by decide)]
    obtain ⟨n, n1, n2⟩ := q6_15 (s := nS) (nS := nS) (nO := nO) (show bR (qH5 τ ps nS nO nH 15 0) 48 24 by
        rw [e5 _ (by decide) (by decide) (by decide), e3 _ (by decide) (by decide) (by decide) (by decide) (by decide)]; exact d15) j hj
    change qH6 τ ps nS nO nH 15 0 j = nI n at n2
    rw [e2, if_pos hj, n2]
    split
    · exact ⟨n, n1, rfl⟩
    · exact ⟨n - 1, by omega, o_max_n n (by omega)⟩
  · have e2 : qHour τ ps nS nO nH 15 0 (6 * i + r) = if (6 * i + r) < 48 then (if ¬ qH6 τ ps nS nO nH 17 0 (6 * i + r) = 0 then qH6 τ ps nS nO nH 15 0 (6 * i + r) else o_max 0 (qH6 τ ps nS nO nH 15 0 (6 * i + r) - 1)) else qH6 τ ps nS nO nH 15 0 (6 * i + r) := by
      unfold qHour qH8; rw [su_k _ _ _ _ (by decide), q8_15, q7_k _ (by decide), q7_k _ (by decide)]
    have z := q6_15z (τ := qH5 τ ps nS nO nH) (nO := nO) hS (by
      rw [e5 _ (by decide) (by decide) (by decide), e3 _ (by decide) (by decide) (by decide) (by decide) (by decide)]; exact dz) nS (Nat.le_refl _) i hi r h1 h2
    change qH6 τ ps nS nO nH 15 0 (6 * i + r) = 0 at z
    rw [e2, if_pos (by omega), z]
    split
    · rfl
    · decide
/-- organs that aren't there yet -/
def rZ (τ : oT) (nO : Nat) : Prop := ∀ i, nO ≤ i → i < 8 → τ 8 0 i = 0 ∧ τ 12 0 i = 0 ∧ (∀ u, u < 6 → τ 13 0 (6 * i + u) = 0) ∧ ∀ r, r < 6 → τ 15 0 (6 * i + r) = 0
theorem q6_dead {τ : oT} {nS nO : Nat} (hS : nS ≤ 6) {i : Nat} (hi : nO ≤ i) : ∀ s, s ≤ nS → q6 τ nS nO s 8 0 i = τ 8 0 i ∧ ∀ r, r < 6 → q6 τ nS nO s 15 0 (6 * i + r) = τ 15 0 (6 * i + r)
  | 0, _ => ⟨rfl, fun _ _ => rfl⟩
  | s + 1, hs => by
    obtain ⟨i1, i2⟩ := q6_dead (τ := τ) hS hi s (by omega)
    simp only [q6]
    by_cases c : qCo (q6 τ nS nO s) (nI s) (-1) (nO * 6) < 10
    · rw [if_pos c]; exact ⟨i1, i2⟩
    · rw [if_neg c]
      have hO : 0 < nO := by
        rcases Nat.eq_zero_or_pos nO with e | e
        · subst e
          exact absurd (show qCo (q6 τ nS 0 s) (nI s) (-1) (0 * 6) < 10 by show (0 : Int32) < 10; decide) c
        · exact e
      have hw := qWo_le (q6 τ nS nO s) s (nO - 1)
      have e8 : qS2 (q6 τ nS nO s) nO s 8 0 i = τ 8 0 i := by rw [qS2_k _ _ _ (by decide) (by decide) (by decide) (by decide)]; exact i1
      constructor
      · unfold qSweep
        split
        · exact e8
        · split
          · exact e8
          · rw [su_at, if_neg (fun q => by have := q.2; omega), su_k _ _ _ _ (by decide), su_k _ _ _ _ (by decide)]; exact e8
      · intro r hr
        rw [qSweep_15]
        unfold qS2
        rw [qZc_k _ _ (by decide)]
        unfold qS1
        rw [su_k _ _ _ _ (show (15 : Nat) ≠ 5 by decide), su_k _ _ _ _ (show (15 : Nat) ≠ 17 by decide), su_at, if_neg (fun q => by have := q.2; omega)]
        exact i2 r hr
theorem q5_dead {τ : oT} {nS nO nH : Nat} (hq : qOK τ nS nO nH) {j : Nat} (hj : nO ≤ j) : ∀ n, n ≤ nO → q5 τ n 12 0 j = τ 12 0 j ∧ ∀ u, u < 6 → q5 τ n 13 0 (6 * j + u) = τ 13 0 (6 * j + u)
  | 0, _ => ⟨rfl, fun _ _ => rfl⟩
  | n + 1, hn => by
    obtain ⟨i1, i2⟩ := q5_dead hq hj n (by omega)
    have hv := rV_of (q5_ok hq n (by omega)) n (by omega)
    have ht : qTu (q5 τ n) n < 6 := (oTu_lt hv.2.1 hv.2.2).1
    simp only [q5]
    split
    · exact ⟨i1, i2⟩
    · unfold qTurn
      constructor
      · rw [su_at, if_neg (fun q => by have := q.2; omega), (qT1_kp _ _).2.2.1]; exact i1
      · intro u hu
        rw [su_k _ _ _ _ (by decide)]
        unfold qT1
        rw [su_at, if_neg (fun q => by have := q.2; omega)]
        exact i2 u hu
theorem qHour_z {τ : oT} {ps : Nat → Int32} {nS nO nH : Nat} (hS : nS ≤ 6) (hq : qOK τ nS nO nH) (hz : rZ τ nO) : rZ (qHour τ ps nS nO nH) nO := by
  have hqT4 : qOK (qH4 τ ps nS nO nH) nS nO nH := (hq.of (q1_kp _ _)).of (q2_kp _ _) |>.of (q3_kp _ _ _ _ _) |>.of (q4_kp _ _ _)
  have t4 : ∀ a, a ≠ 16 → a ≠ 17 → a ≠ 10 → a ≠ 4 → a ≠ 14 → a ≠ 3 → qH4 τ ps nS nO nH a = τ a := fun a g1 g2 g3 g4 g5 g6 => by
    unfold qH4 qH3; rw [q4_k _ _ g6, q3_k _ _ _ _ g3 g4 g5, qH2_k _ _ g1 g2]
  intro i h1 h2
  obtain ⟨z8, z12, z13, z15⟩ := hz i h1 h2
  obtain ⟨d12, d13⟩ := q5_dead hqT4 h1 nO (Nat.le_refl _)
  obtain ⟨d8, d15⟩ := q6_dead (τ := qH5 τ ps nS nO nH) hS h1 nS (Nat.le_refl _)
  change qH5 τ ps nS nO nH 12 0 i = _ at d12
  change ∀ u, u < 6 → qH5 τ ps nS nO nH 13 0 (6 * i + u) = _ at d13
  change qH6 τ ps nS nO nH 8 0 i = _ at d8
  change ∀ r, r < 6 → qH6 τ ps nS nO nH 15 0 (6 * i + r) = _ at d15
  refine ⟨?_, ?_, fun u hu => ?_, fun r hr => ?_⟩
  · unfold qHour qH8
    rw [su_k _ _ _ _ (by decide), q8_k _ (by decide), q7_8, if_neg (by omega), d8]
    unfold qH5
    rw [q5_k _ (by decide) (by decide), t4 _ (by decide) (by decide) (by decide) (by decide) (by decide) (by decide)]; exact z8
  · unfold qHour qH8 qH6
    rw [su_k _ _ _ _ (by decide), qT8_k _ _ _ _ _ _ (by decide) (by decide) (by decide) (by decide) (by decide) (by decide) (by decide), d12, t4 _ (by decide) (by decide) (by decide) (by decide) (by decide) (by decide)]; exact z12
  · unfold qHour qH8 qH6
    rw [su_k _ _ _ _ (by decide), qT8_k _ _ _ _ _ _ (by decide) (by decide) (by decide) (by decide) (by decide) (by decide) (by decide), d13 u hu, t4 _ (by decide) (by decide) (by decide) (by decide) (by decide) (by decide)]; exact z13 u hu
  · have e : qH6 τ ps nS nO nH 15 0 (6 * i + r) = 0 := by
      rw [d15 r hr]
      unfold qH5
      rw [q5_k _ (by decide) (by decide), t4 _ (by decide) (by decide) (by decide) (by decide) (by decide) (by decide)]; exact z15 r hr
    unfold qHour qH8
    rw [su_k _ _ _ _ (by decide), q8_15, q7_k _ (by decide), q7_k _ (by decide), e]
    split
    · split
      · rfl
      · decide
    · rfl
theorem rHour {α τ : oT} {ps : Nat → Int32} {nS nO nH C M N : Nat} (hS : nS ≤ M) (hM : M ≤ 6) (hn : nO ≤ N) (hN : N ≤ 8) (hq : qOK τ nS nO nH) (hr : rR α τ ps nS nO M N) (hd : rD τ ps C nS) (hz : rZ τ nO) : rR (oHour α nS nO nH) (qHour τ ps nS nO nH) ps nS nO M N ∧ oHourN α nS nO nH = qOver (qHour τ ps nS nO nH) nO - qOver τ nO := by
  have hw := hr.w
  have h3p : ∀ s, s < nS → oNp α s = qNp (qH2 τ nO) s := fun s hs => by
    rw [hr.np hs]; unfold qNp; rw [qH2_k _ _ (by decide) (by decide)]
  obtain ⟨hk, h10, h11, h12, h13, h14, h8, h9, h4, h5, h3, h15⟩ := hr
  have hqT4 : qOK (qH4 τ ps nS nO nH) nS nO nH := (hq.of (q1_kp _ _)).of (q2_kp _ _) |>.of (q3_kp _ _ _ _ _) |>.of (q4_kp _ _ _)
  -- coins
  have w2 : rW α (qH2 τ nO) nO := hw.of rfl rfl rfl rfl (qH2_k _ _ (by decide) (by decide)) (qH2_k _ _ (by decide) (by decide)) (qH2_k _ _ (by decide) (by decide)) (qH2_k _ _ (by decide) (by decide))
  have k2 : rK α (qH2 τ nO) ps nS nO M := hk.of rfl rfl rfl rfl rfl rfl rfl (qH2_k _ _ (by decide) (by decide)) (qH2_k _ _ (by decide) (by decide)) (qH2_k _ _ (by decide) (by decide)) (qH2_k _ _ (by decide) (by decide)) (qH2_k _ _ (by decide) (by decide))
  obtain ⟨a14, a8, a4, aO⟩ := rP1 (nH := nH) w2 k2 hn hN hS hM (by rw [qH2_k _ _ (by decide) (by decide)]; exact h14) (by rw [qH2_k _ _ (by decide) (by decide)]; exact h8) (by rw [qH2_k _ _ (by decide) (by decide)]; exact h4) h3p nS (Nat.le_refl _)
  have w3 : rW (oH1 α nS nO nH) (qH3 τ ps nS nO nH) nO := w2.of (oP1_k _ _ _ (by decide) (by decide) (by decide) _) (oP1_k _ _ _ (by decide) (by decide) (by decide) _) (oP1_k _ _ _ (by decide) (by decide) (by decide) _) (oP1_k _ _ _ (by decide) (by decide) (by decide) _) (q3_k _ _ _ _ (by decide) (by decide) (by decide) _) (q3_k _ _ _ _ (by decide) (by decide) (by decide) _) (q3_k _ _ _ _ (by decide) (by decide) (by decide) _) (q3_k _ _ _ _ (by decide) (by decide) (by decide) _)
  have k3 : rK (oH1 α nS nO nH) (qH3 τ ps nS nO nH) ps nS nO M := k2.of (oP1_k _ _ _ (by decide) (by decide) (by decide) _) (oP1_k _ _ _ (by decide) (by decide) (by decide) _) (oP1_k _ _ _ (by decide) (by decide) (by decide) _) (oP1_k _ _ _ (by decide) (by decide) (by decide) _) (oP1_k _ _ _ (by decide) (by decide) (by decide) _) (oP1_k _ _ _ (by decide) (by decide) (by decide) _) (oP1_k _ _ _ (by decide) (by decide) (by decide) _) (q3_k _ _ _ _ (by decide) (by decide) (by decide) _) (q3_k _ _ _ _ (by decide) (by decide) (by decide) _) (q3_k _ _ _ _ (by decide) (by decide) (by decide) _) (q3_k _ _ _ _ (by decide) (by decide) (by decide) _) (q3_k _ _ _ _ (by decide) (by decide) (by decide) _)
  -- ears
  obtain ⟨w4, k4⟩ := rP2 w3 k3 hS nS (Nat.le_refl _)
  -- what has stayed as it was, as far as the ears
  have s2 : ∀ a, a ≠ 14 → a ≠ 8 → a ≠ 4 → a ≠ 2 → oH2 α nS nO nH a = α a := fun a g1 g2 g3 g4 => by
    unfold oH2 oH1; rw [oP2_k _ _ g4, oP1_k _ _ _ g1 g2 g3]
  have t4 : ∀ a, a ≠ 16 → a ≠ 17 → a ≠ 10 → a ≠ 4 → a ≠ 14 → a ≠ 3 → qH4 τ ps nS nO nH a = τ a := fun a g1 g2 g3 g4 g5 g6 => by
    unfold qH4 qH3; rw [q4_k _ _ g6, q3_k _ _ _ _ g3 g4 g5, qH2_k _ _ g1 g2]
  have t4' : ∀ a, a ≠ 10 → a ≠ 4 → a ≠ 14 → a ≠ 3 → qH4 τ ps nS nO nH a = qH2 τ nO a := fun a g3 g4 g5 g6 => by
    unfold qH4 qH3; rw [q4_k _ _ g6, q3_k _ _ _ _ g3 g4 g5]
  -- barrels
  have g4 : rWent (qH4 τ ps nS nO nH) nO := fun i hi => by
    obtain ⟨n, n1, n2⟩ := hd.2.2.2.2.2.2.1 i (by omega)
    rw [t4' 16 (by decide) (by decide) (by decide) (by decide), t4 8 (by decide) (by decide) (by decide) (by decide) (by decide) (by decide), qH2_16 τ hi, bI_eq, n2]
    rw [show nI n = 0 ↔ n = 0 from nI_eq (b := 0) (by omega) (by decide), Bool.not_eq_false', decide_eq_true_iff, o_le0 rfl (by omega)]
  have k5 : rK (oH3 α nS nO nH) (qH5 τ ps nS nO nH) ps nS nO M := rP3 hqT4 w4 g4 k4 nO (Nat.le_refl _)
  have s3 : ∀ a, a ≠ 14 → a ≠ 8 → a ≠ 4 → a ≠ 2 → a ≠ 7 → a ≠ 17 → oH3 α nS nO nH a = α a := fun a g1 g2 g3 g4 g5 g6 => by
    unfold oH3; rw [oTb_k _ g5 g6]; exact s2 a g1 g2 g3 g4
  have t5 : ∀ a, a ≠ 16 → a ≠ 17 → a ≠ 10 → a ≠ 4 → a ≠ 14 → a ≠ 3 → a ≠ 13 → a ≠ 12 → qH5 τ ps nS nO nH a = τ a := fun a g1 g2 g3 g4 g5 g6 g7 g8 => by
    unfold qH5; rw [q5_k _ g7 g8]; exact t4 a g1 g2 g3 g4 g5 g6
  have t5' : ∀ a, a ≠ 10 → a ≠ 4 → a ≠ 14 → a ≠ 3 → a ≠ 13 → a ≠ 12 → qH5 τ ps nS nO nH a = qH2 τ nO a := fun a g3 g4 g5 g6 g7 g8 => by
    unfold qH5; rw [q5_k _ g7 g8]; exact t4' a g3 g4 g5 g6
  have s3p : ∀ a, a ≠ 2 → a ≠ 7 → a ≠ 17 → oH3 α nS nO nH a = (oP1 α nO nH nS).1 a := fun a g4 g5 g6 => by
    unfold oH3 oH2 oH1; rw [oTb_k _ g5 g6, oP2_k _ _ g4]
  have t5p : ∀ a, a ≠ 3 → a ≠ 13 → a ≠ 12 → qH5 τ ps nS nO nH a = q3 (qH2 τ nO) ps nO nH nS a := fun a g6 g7 g8 => by
    unfold qH5 qH4 qH3; rw [q5_k _ g7 g8, q4_k _ _ g6]
  -- constables
  have m5 : rM (oH3 α nS nO nH) (qH5 τ ps nS nO nH) nO M N := by
    refine ⟨?_, ?_, ?_, ?_, ?_, fun i hi => ?_, fun i hi r hr => ?_⟩
    · rw [s3 _ (by decide) (by decide) (by decide) (by decide) (by decide) (by decide), t5 _ (by decide) (by decide) (by decide) (by decide) (by decide) (by decide) (by decide) (by decide)]; exact h10
    · rw [s3 _ (by decide) (by decide) (by decide) (by decide) (by decide) (by decide), t5 _ (by decide) (by decide) (by decide) (by decide) (by decide) (by decide) (by decide) (by decide)]; exact h11
    · rw [s3 _ (by decide) (by decide) (by decide) (by decide) (by decide) (by decide), t5 _ (by decide) (by decide) (by decide) (by decide) (by decide) (by decide) (by decide) (by decide)]; exact h13
    · rw [s3p _ (by decide) (by decide) (by decide), t5p _ (by decide) (by decide) (by decide)]; exact a8
    · rw [s3 _ (by decide) (by decide) (by decide) (by decide) (by decide) (by decide), t5 _ (by decide) (by decide) (by decide) (by decide) (by decide) (by decide) (by decide) (by decide)]; exact h5
    · obtain ⟨n, n1, n2⟩ := hd.2.2.2.2.2.2.1 i (by omega)
      rw [s3 _ (by decide) (by decide) (by decide) (by decide) (by decide) (by decide), t5 8 (by decide) (by decide) (by decide) (by decide) (by decide) (by decide) (by decide) (by decide), t5' _ (by decide) (by decide) (by decide) (by decide) (by decide) (by decide), qH2_16 τ hi, h12 i hi, n2]
      rcases Nat.eq_zero_or_pos n with e | e
      · subst e
        exact Or.inr ⟨by decide, Or.inl ⟨rfl, rfl⟩⟩
      · refine Or.inl ⟨?_, rfl, ?_⟩
        · rw [decide_eq_false (nI_nle e (by omega))]; decide
        · exact Int32.not_le.mp (nI_nle e (by omega))
    · rw [s3 _ (by decide) (by decide) (by decide) (by decide) (by decide) (by decide), t5 15 (by decide) (by decide) (by decide) (by decide) (by decide) (by decide) (by decide) (by decide), t5' _ (by decide) (by decide) (by decide) (by decide) (by decide) (by decide)]
      refine Or.inl ⟨?_, h9 i hi r hr⟩
      unfold qH2
      exact q2_17 _ _ _ (by omega)
  obtain ⟨b10, b11, b13, b8, b5, bY, bN⟩ := rP4 m5 hS hM hn hN nS (Nat.le_refl _)
  change rA (oH4 α nS nO nH 10) (qH6 τ ps nS nO nH 6) nO at b10
  change rA (oH4 α nS nO nH 11) (qH6 τ ps nS nO nH 7) nO at b11
  change rA (oH4 α nS nO nH 13) (qH6 τ ps nS nO nH 9) nO at b13
  change rB (oH4 α nS nO nH 8) (qH6 τ ps nS nO nH 14) N at b8
  change rA (oH4 α nS nO nH 5) (qH6 τ ps nS nO nH 5) M at b5
  change rY (oH4 α nS nO nH) (qH6 τ ps nS nO nH) nO at bY
  change rN (oH4 α nS nO nH) (qH6 τ ps nS nO nH) N at bN
  -- the end
  have f5 : ∀ a, a ≠ 18 → a ≠ 12 → a ≠ 9 → oHour α nS nO nH a = oH4 α nS nO nH a := fun a g1 g2 g3 => by
    unfold oHour oH5; rw [su_k _ _ _ _ g1, oP5_k _ g2 g3]
  have f8 : ∀ a, a ≠ 40 → a ≠ 15 → a ≠ 8 → qHour τ ps nS nO nH a = qH6 τ ps nS nO nH a := fun a g1 g2 g3 => by
    unfold qHour qH8; rw [su_k _ _ _ _ g1, q8_k _ g2, q7_k _ g3]
  have f53 : ∀ a, a ≠ 18 → a ≠ 12 → a ≠ 9 → a ≠ 5 → a ≠ 10 → a ≠ 11 → a ≠ 8 → oHour α nS nO nH a = oH3 α nS nO nH a := fun a g1 g2 g3 g4 g5 g6 g7 => by
    rw [f5 a g1 g2 g3]; exact oP4_k _ _ _ g3 g4 g5 g6 g2 g7 _
  have f85 : ∀ a, a ≠ 40 → a ≠ 15 → a ≠ 8 → a ≠ 17 → a ≠ 5 → a ≠ 14 → a ≠ 6 → a ≠ 7 → qHour τ ps nS nO nH a = qH5 τ ps nS nO nH a := fun a g1 g2 g3 g4 g5 g6 g7 g8 => by
    rw [f8 a g1 g2 g3]; exact q6_k _ _ _ g2 g4 g5 g6 g7 g8 g3 _
  have k8 : rK (oHour α nS nO nH) (qHour τ ps nS nO nH) ps nS nO M := k5.of (f53 _ (by decide) (by decide) (by decide) (by decide) (by decide) (by decide) (by decide)) (f53 _ (by decide) (by decide) (by decide) (by decide) (by decide) (by decide) (by decide)) (f53 _ (by decide) (by decide) (by decide) (by decide) (by decide) (by decide) (by decide)) (f53 _ (by decide) (by decide) (by decide) (by decide) (by decide) (by decide) (by decide)) (f53 _ (by decide) (by decide) (by decide) (by decide) (by decide) (by decide) (by decide)) (f53 _ (by decide) (by decide) (by decide) (by decide) (by decide) (by decide) (by decide)) (f53 _ (by decide) (by decide) (by decide) (by decide) (by decide) (by decide) (by decide)) (f85 _ (by decide) (by decide) (by decide) (by decide) (by decide) (by decide) (by decide) (by decide)) (f85 _ (by decide) (by decide) (by decide) (by decide) (by decide) (by decide) (by decide) (by decide)) (f85 _ (by decide) (by decide) (by decide) (by decide) (by decide) (by decide) (by decide) (by decide)) (f85 _ (by decide) (by decide) (by decide) (by decide) (by decide) (by decide) (by decide) (by decide)) (f85 _ (by decide) (by decide) (by decide) (by decide) (by decide) (by decide) (by decide) (by decide))
  refine ⟨⟨k8, ?_, ?_, fun i hi => ?_, ?_, ?_, ?_, fun i hi r hr => ?_, ?_, ?_, ?_, ?_⟩, ?_⟩
  · rw [f5 _ (by decide) (by decide) (by decide), f8 _ (by decide) (by decide) (by decide)]; exact b10
  · rw [f5 _ (by decide) (by decide) (by decide), f8 _ (by decide) (by decide) (by decide)]; exact b11
  · have e1 : oHour α nS nO nH 12 i 0 = oLess (oH4 α nS nO nH 12 i 0) := by
      unfold oHour oH5; rw [su_k _ _ _ _ (by decide), oP5_12, if_pos hi]
    have e2 : qHour τ ps nS nO nH 8 0 i = if qH6 τ ps nS nO nH 16 0 i = 0 then qH6 τ ps nS nO nH 8 0 i else qH6 τ ps nS nO nH 8 0 i - 1 := by
      unfold qHour qH8; rw [su_k _ _ _ _ (by decide), q8_k _ (by decide), q7_8, if_pos hi]
    rw [e1, e2]
    rcases bY i hi with ⟨y1, y2, y3⟩ | ⟨y1, ⟨y2, y3⟩ | ⟨y2, y3⟩⟩
    · rw [if_neg y1, y2]; unfold oLess; rw [if_neg (Int32.not_le.mpr y3)]
    · rw [if_pos y1, y2, y3]; rfl
    · rw [if_pos y1, y2, y3]; decide
  · rw [f5 _ (by decide) (by decide) (by decide), f8 _ (by decide) (by decide) (by decide)]; exact b13
  · rw [f53 _ (by decide) (by decide) (by decide) (by decide) (by decide) (by decide) (by decide), f85 _ (by decide) (by decide) (by decide) (by decide) (by decide) (by decide) (by decide) (by decide), s3p _ (by decide) (by decide) (by decide), t5p _ (by decide) (by decide) (by decide)]; exact a14
  · rw [f5 _ (by decide) (by decide) (by decide), f8 _ (by decide) (by decide) (by decide)]; exact b8
  · have e1 : oHour α nS nO nH 9 i r = if i < nO then oLess (oH4 α nS nO nH 9 i r) else oH4 α nS nO nH 9 i r := by
      unfold oHour oH5; rw [su_k _ _ _ _ (by decide), oP5_9 _ _ _ hr]
    have e2 : qHour τ ps nS nO nH 15 0 (6 * i + r) = if ¬ qH6 τ ps nS nO nH 17 0 (6 * i + r) = 0 then qH6 τ ps nS nO nH 15 0 (6 * i + r) else o_max 0 (qH6 τ ps nS nO nH 15 0 (6 * i + r) - 1) := by
      unfold qHour qH8; rw [su_k _ _ _ _ (by decide), q8_15, if_pos (by omega), q7_k _ (by decide), q7_k _ (by decide)]
    obtain ⟨n, n1, n2⟩ := q6_15 (s := nS) (nS := nS) (nO := nO) (show bR (qH5 τ ps nS nO nH 15 0) 48 24 by
        rw [t5 15 (by decide) (by decide) (by decide) (by decide) (by decide) (by decide) (by decide) (by decide)]; exact hd.2.2.2.2.2.2.2.1) (6 * i + r) (by omega)
    change qH6 τ ps nS nO nH 15 0 (6 * i + r) = nI n at n2
    by_cases ci : i < nO
    · rw [e1, e2, if_pos ci]
      rcases bN i hi r hr with ⟨y1, y2⟩ | ⟨y1, y2, y3⟩
      · rw [if_neg (fun q => q y1), y2, n2, oLess_n _ (by omega), o_max_n _ (by omega)]
      · rw [if_pos y1, y2, y3]; decide
    · have z : qH6 τ ps nS nO nH 15 0 (6 * i + r) = 0 := by
        have d := (q6_dead (τ := qH5 τ ps nS nO nH) (nS := nS) (nO := nO) (by omega) (by omega : nO ≤ i) nS (Nat.le_refl _)).2 r hr
        change qH6 τ ps nS nO nH 15 0 (6 * i + r) = _ at d
        rw [d, t5 15 (by decide) (by decide) (by decide) (by decide) (by decide) (by decide) (by decide) (by decide)]
        exact (hz i (by omega) (by omega)).2.2.2 r hr
      rw [e1, e2, if_neg ci]
      rcases bN i hi r hr with ⟨y1, y2⟩ | ⟨y1, y2, y3⟩
      · rw [if_neg (fun q => q y1), y2, z]; decide
      · rw [z] at y3; exact absurd y3 (by decide)
  · rw [f53 _ (by decide) (by decide) (by decide) (by decide) (by decide) (by decide) (by decide), f85 _ (by decide) (by decide) (by decide) (by decide) (by decide) (by decide) (by decide) (by decide), s3p _ (by decide) (by decide) (by decide), t5p _ (by decide) (by decide) (by decide)]; exact a4
  · rw [f5 _ (by decide) (by decide) (by decide), f8 _ (by decide) (by decide) (by decide)]; exact b5
  · rw [f53 _ (by decide) (by decide) (by decide) (by decide) (by decide) (by decide) (by decide), f85 _ (by decide) (by decide) (by decide) (by decide) (by decide) (by decide) (by decide) (by decide), s3 _ (by decide) (by decide) (by decide) (by decide) (by decide) (by decide), t5 _ (by decide) (by decide) (by decide) (by decide) (by decide) (by decide) (by decide) (by decide)]; exact h3
  · rw [f53 _ (by decide) (by decide) (by decide) (by decide) (by decide) (by decide) (by decide), f85 _ (by decide) (by decide) (by decide) (by decide) (by decide) (by decide) (by decide) (by decide), s3 _ (by decide) (by decide) (by decide) (by decide) (by decide) (by decide), t5 _ (by decide) (by decide) (by decide) (by decide) (by decide) (by decide) (by decide) (by decide)]; exact h15
  · have e : qOver (qHour τ ps nS nO nH) nO = qOver τ nO + oHourN α nS nO nH := by
      have e1 : qOver (qHour τ ps nS nO nH) nO = qOver (q3 (qH2 τ nO) ps nO nH nS) nO := qOver_k nO (by rw [f85 _ (by decide) (by decide) (by decide) (by decide) (by decide) (by decide) (by decide) (by decide), t5p _ (by decide) (by decide) (by decide)])
      rw [e1, aO, qOver_k nO (qH2_k τ nO (by decide) (by decide))]; rfl
    rw [e, Int32.add_comm, Int32.add_sub_cancel]
