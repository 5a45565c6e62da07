/-! THE TWO MEMORIES SIDE BY SIDE: who is heard -/
theorem o_neg_toInt {D : Int32} (h : -2147483648 < D.toInt) : (-D).toInt = -D.toInt := by
  have h1 := D.toInt_lt
  rw [Int32.toInt_neg]
  exact Int.bmod_eq_of_le (by omega) (by omega)
theorem o_abs_neg (D : Int32) : o_abs (-D) = o_abs D := by
  have h1 := D.toInt_lt
  have h2 := D.le_toInt
  unfold o_abs
  by_cases h : 0 ≤ D <;> by_cases h' : 0 ≤ -D
  · rw [if_pos h, if_pos h']
    rw [Int32.le_iff_toInt_le] at h h'
    have h3 : (0 : Int32).toInt = 0 := rfl
    rw [h3] at h h'
    have e := o_neg_toInt (D := D) (by omega)
    refine Int32.toInt_inj.mp ?_
    omega
  · rw [if_pos h, if_neg h', Int32.zero_sub, Int32.neg_neg]
  · rw [if_neg h, if_pos h', Int32.zero_sub]
  · rw [if_neg h, if_neg h', Int32.zero_sub, Int32.zero_sub, Int32.neg_neg]
    rw [Int32.le_iff_toInt_le] at h h'
    have h3 : (0 : Int32).toInt = 0 := rfl
    rw [h3] at h h'
    by_cases e : -2147483648 < D.toInt
    · have e := o_neg_toInt (D := D) e
      omega
    · have e : D.toInt = (-2147483648 : Int32).toInt := by
        show D.toInt = -2147483648
        omega
      rw [Int32.toInt_inj.mp e]
      decide
theorem o_abs_sub (a b : Int32) : o_abs (a - b) = o_abs (b - a) := by rw [← Int32.neg_sub, o_abs_neg]
theorem o_max0 (x : Int32) : 0 ≤ o_max 0 x := by
  unfold o_max
  by_cases h : (0 : Int32) < x
  · rw [if_pos h]; exact Int32.le_of_lt h
  · rw [if_neg h]; exact Int32.le_refl 0
theorem qSnd_0 (τ : oT) (i : Nat) (x y : Int32) : 0 ≤ qSnd τ i x y := by
  unfold qSnd
  split
  · exact o_max0 _
  · exact Int32.le_refl 0
/-- what a sound rests on -/
def rW (α τ : oT) (n : Nat) : Prop := ∀ i, i < n → α 10 i 0 = τ 6 0 i ∧ α 11 i 0 = τ 7 0 i ∧ (α 12 i 0 = 0 ↔ τ 8 0 i = 0) ∧ α 13 i 0 = τ 9 0 i
theorem rW_std {α τ : oT} {n i : Nat} (h : rW α τ n) (hi : i < n) (x : Int32) : oStd α i x = qStd τ i x := by
  obtain ⟨h1, -, h3, -⟩ := h i hi
  unfold oStd qStd
  rw [h1, Bool.and_comm]
  congr 1
  exact decide_eq_decide.mpr h3
theorem rW_snd {α τ : oT} {n i : Nat} (h : rW α τ n) (hi : i < n) (x y : Int32) : oSnd α i x y = qSnd τ i x y := by
  unfold oSnd qSnd
  rw [rW_std h hi x]
  obtain ⟨-, h2, -, h4⟩ := h i hi
  unfold qStd
  simp only [Bool.and_eq_true, decide_eq_true_iff]
  rw [h2, h4, o_abs_sub]
/-- sounds as numbers -/
def nWh (g : Nat → Nat) : Nat → Int32 × Nat × Nat
  | 0 => (-1, 0, 0)
  | i + 1 => if g i ≤ (nWh g i).2.1 then (if g i ≤ (nWh g i).2.2 then nWh g i else ((nWh g i).1, (nWh g i).2.1, g i)) else (nI i, g i, (nWh g i).2.1)
def nHd (g : Nat → Nat) (l : Nat) : Nat → Int32 × Nat
  | 0 => (-1, 0)
  | i + 1 => if g i = 0 ∨ g i < l - 1 then nHd g l i else (if g i = l then nI i else (nHd g l i).1, (nHd g l i).2 + 1)
def nLd (g : Nat → Nat) : Nat → Nat
  | 0 => 0
  | i + 1 => if g i ≤ nLd g i then nLd g i else g i
theorem nWh_ld (g : Nat → Nat) : ∀ k, (nWh g k).2.1 = nLd g k
  | 0 => rfl
  | k + 1 => by
    have ih := nWh_ld g k
    simp only [nWh, nLd]
    rw [ih]
    split
    · split
      · exact ih
      · rfl
    · rfl
theorem nWh_lt {g : Nat → Nat} {B : Nat} (hg : ∀ i, g i < B) (hB : 0 < B) : ∀ k, (nWh g k).2.1 < B ∧ (nWh g k).2.2 < B
  | 0 => ⟨hB, hB⟩
  | k + 1 => by
    have ih := nWh_lt hg hB k
    have hk := hg k
    simp only [nWh]
    split
    · split
      · exact ih
      · exact ⟨ih.1, hk⟩
    · exact ⟨hk, ih.1⟩
theorem nLd_lt {g : Nat → Nat} {B : Nat} (hg : ∀ i, g i < B) (hB : 0 < B) (k : Nat) : nLd g k < B := by
  rw [← nWh_ld]; exact (nWh_lt hg hB k).1
theorem oWh_n {α : oT} {x y : Int32} {g : Nat → Nat} {n : Nat} (hf : ∀ i, i < n → oSnd α i x y = nI (g i)) (hg : ∀ i, g i < 2 ^ 31) : ∀ k, k ≤ n → oWh α x y k = ((nWh g k).1, nI (nWh g k).2.1, nI (nWh g k).2.2)
  | 0, _ => rfl
  | k + 1, hk => by
    have ih := oWh_n hf hg k (by omega)
    have hl := nWh_lt hg (by decide) k
    have hgk := hg k
    simp only [oWh, nWh]
    rw [ih, hf k (by omega)]
    simp only [nI_leI hgk hl.1, nI_leI hgk hl.2]
    split
    · split
      · rfl
      · rfl
    · rfl
theorem qLd_n {τ : oT} {x y : Int32} {g : Nat → Nat} {n : Nat} (hf : ∀ i, i < n → qSnd τ i x y = nI (g i)) (hg : ∀ i, g i < 2 ^ 31) : ∀ k, k ≤ n → qLd τ x y k = nI (nLd g k)
  | 0, _ => rfl
  | k + 1, hk => by
    have ih := qLd_n hf hg k (by omega)
    have hl := nLd_lt hg (by decide) k
    have hgk := hg k
    simp only [qLd, nLd]
    rw [ih, hf k (by omega)]
    unfold o_max
    simp only [nI_ltI hl hgk]
    by_cases h : g k ≤ nLd g k
    · rw [if_pos h, if_neg (by omega)]
    · rw [if_neg h, if_pos (by omega)]
theorem o_lt_m1 {a l : Nat} (ha : a < 2 ^ 31) (hl : l < 2 ^ 31) : (nI a = 0 ∨ nI a < nI l - 1) ↔ (a = 0 ∨ a < l - 1) := by
  rw [show nI a = 0 ↔ a = 0 from nI_eq (b := 0) ha (by decide)]
  by_cases h0 : a = 0
  · simp [h0]
  · match l, hl with
    | 0, _ =>
      have : ¬ nI a < nI 0 - 1 := fun h => by
        have h1 := Int32.lt_trans h (show nI 0 - 1 < 0 by decide)
        exact nI_pos ha h1
      simp [h0, this]
    | l + 1, hl =>
      rw [nI_pred, nI_ltI ha (by omega)]
      simp
theorem qHd_n {τ : oT} {x y : Int32} {g : Nat → Nat} {n l : Nat} (hf : ∀ i, i < n → qSnd τ i x y = nI (g i)) (hg : ∀ i, g i < 2 ^ 31) (hl : l < 2 ^ 31) : ∀ k, k ≤ n → qHd τ x y (nI l) k = ((nHd g l k).1, nI (nHd g l k).2)
  | 0, _ => rfl
  | k + 1, hk => by
    have ih := qHd_n hf hg hl k (by omega)
    have hgk := hg k
    simp only [qHd, nHd]
    rw [ih, hf k (by omega)]
    simp only [o_lt_m1 hgk hl, nI_eq hgk hl]
    split
    · rfl
    · simp only [nI_1]
theorem nHd_le (g : Nat → Nat) (l : Nat) : ∀ k, (nHd g l k).2 ≤ k
  | 0 => Nat.le_refl 0
  | k + 1 => by
    have ih := nHd_le g l k
    simp only [nHd]
    split
    · omega
    · exact Nat.succ_le_succ ih
theorem nHd_mono (g : Nat → Nat) (l a : Nat) : ∀ d, (nHd g l a).2 ≤ (nHd g l (a + d)).2
  | 0 => Nat.le_refl _
  | d + 1 => by
    have ih := nHd_mono g l a d
    show _ ≤ (nHd g l (a + d + 1)).2
    simp only [nHd]
    split
    · exact ih
    · exact Nat.le_succ_of_le ih
theorem nHd_two {g : Nat → Nat} {l a b n : Nat} (hab : a < b) (hb : b < n) (ha' : ¬ (g a = 0 ∨ g a < l - 1)) (hb' : ¬ (g b = 0 ∨ g b < l - 1)) : 2 ≤ (nHd g l n).2 := by
  have h1 : (nHd g l (a + 1)).2 = (nHd g l a).2 + 1 := by simp only [nHd]; rw [if_neg ha']
  have h2 : (nHd g l (b + 1)).2 = (nHd g l b).2 + 1 := by simp only [nHd]; rw [if_neg hb']
  have h3 := nHd_mono g l (a + 1) (b - (a + 1))
  have h4 := nHd_mono g l (b + 1) (n - (b + 1))
  rw [show a + 1 + (b - (a + 1)) = b by omega] at h3
  rw [show b + 1 + (n - (b + 1)) = n by omega] at h4
  omega
theorem nHd_none {g : Nat → Nat} {l : Nat} : ∀ k, (∀ i, i < k → g i = 0 ∨ g i < l - 1) → nHd g l k = (-1, 0)
  | 0, _ => rfl
  | k + 1, h => by
    simp only [nHd]
    rw [if_pos (h k (by omega))]
    exact nHd_none k (fun i hi => h i (by omega))
theorem nHd_one {g : Nat → Nat} {l j : Nat} (hj : g j = l) (hl : 0 < l) : ∀ k, (∀ i, i < k → i ≠ j → g i = 0 ∨ g i < l - 1) → j < k → nHd g l k = (nI j, 1)
  | 0, _, h => by omega
  | k + 1, h, hk => by
    by_cases e : k = j
    · subst e
      simp only [nHd]
      rw [if_neg (by omega), if_pos hj, nHd_none k (fun i hi => h i (by omega) (by omega))]
    · simp only [nHd]
      rw [if_pos (h k (by omega) e)]
      exact nHd_one hj hl k (fun i hi => h i (by omega)) (by omega)
/-- the loudest, who, the next -/
theorem nWh_is (g : Nat → Nat) : ∀ k, (nWh g k).2.2 ≤ (nWh g k).2.1 ∧ (∀ i, i < k → g i ≤ (nWh g k).2.1) ∧ (((nWh g k).2.1 = 0 ∧ (nWh g k).1 = -1) ∨ ∃ j, j < k ∧ (nWh g k).1 = nI j ∧ g j = (nWh g k).2.1 ∧ 0 < (nWh g k).2.1 ∧ (∀ i, i < k → i ≠ j → g i ≤ (nWh g k).2.2) ∧ ((nWh g k).2.2 = 0 ∨ ∃ i, i < k ∧ i ≠ j ∧ g i = (nWh g k).2.2))
  | 0 => ⟨Nat.le_refl 0, fun i hi => by omega, Or.inl ⟨rfl, rfl⟩⟩
  | k + 1 => by
    obtain ⟨h1, h2, h3⟩ := nWh_is g k
    simp only [nWh]
    by_cases c1 : g k ≤ (nWh g k).2.1
    · rw [if_pos c1]
      by_cases c2 : g k ≤ (nWh g k).2.2
      · rw [if_pos c2]
        refine ⟨h1, fun i hi => ?_, ?_⟩
        · by_cases e : i = k
          · subst e; exact c1
          · exact h2 i (by omega)
        · refine h3.imp id ?_
          rintro ⟨j, a1, a2, a3, a4, a5, a6⟩
          refine ⟨j, by omega, a2, a3, a4, fun i hi hij => ?_, a6.imp id (fun ⟨i, b1, b2⟩ => ⟨i, by omega, b2⟩)⟩
          by_cases e : i = k
          · subst e; exact c2
          · exact a5 i (by omega) hij
      · rw [if_neg c2]
        refine ⟨c1, fun i hi => ?_, ?_⟩
        · by_cases e : i = k
          · subst e; exact c1
          · exact h2 i (by omega)
        · rcases h3 with ⟨a1, a2⟩ | ⟨j, a1, a2, a3, a4, a5, a6⟩
          · omega
          · refine Or.inr ⟨j, by omega, a2, a3, a4, fun i hi hij => ?_, Or.inr ⟨k, by omega, by omega, rfl⟩⟩
            by_cases e : i = k
            · subst e; exact Nat.le_refl _
            · have := a5 i (by omega) hij
              show g i ≤ g k
              omega
    · rw [if_neg c1]
      refine ⟨by show (nWh g k).2.1 ≤ g k; omega, fun i hi => ?_, Or.inr ⟨k, by omega, rfl, rfl, by show 0 < g k; omega, fun i hi hij => h2 i (by omega), ?_⟩⟩
      · show g i ≤ g k
        by_cases e : i = k
        · subst e; exact Nat.le_refl _
        · have := h2 i (by omega); omega
      · rcases h3 with ⟨a1, a2⟩ | ⟨j, a1, a2, a3, a4, a5, a6⟩
        · exact Or.inl a1
        · exact Or.inr ⟨j, by omega, by omega, a3⟩
theorem nHeard_eq (g : Nat → Nat) (n : Nat) : (if (nWh g n).2.2 = 0 ∨ (nWh g n).2.2 < (nWh g n).2.1 - 1 then (nWh g n).1 else (-2 : Int32)) = if (nHd g (nLd g n) n).2 ≤ 1 then (nHd g (nLd g n) n).1 else -2 := by
  obtain ⟨h1, h2, h3⟩ := nWh_is g n
  rw [← nWh_ld]
  rcases h3 with ⟨a1, a2⟩ | ⟨j, a1, a2, a3, a4, a5, a6⟩
  · have e := nHd_none (g := g) (l := (nWh g n).2.1) n (fun i hi => Or.inl (by have := h2 i hi; omega))
    rw [if_pos (Or.inl (by omega)), e, a2]; rfl
  · by_cases c : (nWh g n).2.2 = 0 ∨ (nWh g n).2.2 < (nWh g n).2.1 - 1
    · have e := nHd_one a3 a4 n (fun i hi hij => by have := a5 i hi hij; omega) a1
      rw [if_pos c, e, a2]; rfl
    · have e : 2 ≤ (nHd g (nWh g n).2.1 n).2 := by
        rcases a6 with b1 | ⟨i, b1, b2, b3⟩
        · exact absurd (Or.inl b1) c
        · rcases Nat.lt_or_gt_of_ne b2 with b4 | b4
          · exact nHd_two b4 a1 (by omega) (by omega)
          · exact nHd_two b4 b1 (by omega) (by omega)
      rw [if_neg c, if_neg (by omega)]
theorem rW_heard {α τ : oT} {n : Nat} (h : rW α τ n) (hn : n < 2 ^ 31) (x y : Int32) : oHeard α n x y = qHeard τ n x y := by
  have hg : ∀ i, (fun i => oN (qSnd τ i x y)) i < 2 ^ 31 := fun i => oN_lt
  have hf : ∀ i, i < n → qSnd τ i x y = nI ((fun i => oN (qSnd τ i x y)) i) := fun i _ => oN_of (qSnd_0 τ i x y)
  have hf' : ∀ i, i < n → oSnd α i x y = nI ((fun i => oN (qSnd τ i x y)) i) := fun i hi => (rW_snd h hi x y).trans (hf i hi)
  generalize (fun i => oN (qSnd τ i x y)) = g at hg hf hf'
  have e1 := oWh_n hf' hg n (Nat.le_refl n)
  have e2 := qLd_n hf hg n (Nat.le_refl n)
  have hl := nWh_lt hg (by decide) n
  have hl' := nLd_lt hg (by decide) n
  have e3 := qHd_n hf hg hl' n (Nat.le_refl n)
  have e4 := nHeard_eq g n
  have hle := nHd_le g (nLd g n) n
  unfold oHeard qHeard
  rw [e1, e2, e3]
  have c1 : (nI (nWh g n).2.2 ≤ 0 ∨ nI (nWh g n).2.2 < nI (nWh g n).2.1 - 1) ↔ ((nWh g n).2.2 = 0 ∨ (nWh g n).2.2 < (nWh g n).2.1 - 1) := by
    rw [← o_lt_m1 hl.2 hl.1, o_le0 rfl hl.2, show nI (nWh g n).2.2 = 0 ↔ (nWh g n).2.2 = 0 from nI_eq (b := 0) hl.2 (by decide)]
  have c2 : nI (nHd g (nLd g n) n).2 ≤ 1 ↔ (nHd g (nLd g n) n).2 ≤ 1 := o_nle rfl (show (1 : Int32) = nI 1 by decide) (by omega) (by decide)
  simp only [c1, c2]
  exact e4
theorem rW_ld {α τ : oT} {n : Nat} (h : rW α τ n) (x y : Int32) : ∀ k, k ≤ n → oLd α x y k = qLd τ x y k
  | 0, _ => rfl
  | k + 1, hk => by
    simp only [oLd, qLd]
    rw [rW_ld h x y k (by omega), rW_snd h (by omega) x y]
/-- the kinds that sounds rest on -/
theorem rW.of {α τ α' τ' : oT} {n : Nat} (h : rW α τ n) (h1 : α' 10 = α 10) (h2 : α' 11 = α 11) (h3 : α' 12 = α 12) (h4 : α' 13 = α 13) (k1 : τ' 6 = τ 6) (k2 : τ' 7 = τ 7) (k3 : τ' 8 = τ 8) (k4 : τ' 9 = τ 9) : rW α' τ' n := by
  unfold rW
  rw [h1, h2, h3, h4, k1, k2, k3, k4]
  exact h
theorem rW_stand {α τ : oT} {n : Nat} (h : rW α τ n) (x : Int32) : ∀ k, k ≤ n → oStandN α x k = qStandN τ x k
  | 0, _ => rfl
  | k + 1, hk => by
    simp only [oStandN, qStandN]
    rw [rW_stand h x k (by omega), rW_std h (by omega) x]
    cases qStd τ k x
    · rw [if_neg (by decide)]; exact (Int32.add_zero _).symm
    · rfl
theorem rW_drown {α τ : oT} {n : Nat} (h : rW α τ n) (hn : n < 2 ^ 31) (x : Int32) : ∀ k, oDrownN α n x k = qWith τ n x true k
  | 0 => rfl
  | k + 1 => by
    simp only [oDrownN, qWith]
    rw [rW_drown h hn x k, rW_heard h hn]
    by_cases c : qHeard τ n x (nI k) = -2
    · simp [c, bI]
    · simp [c, bI]
theorem rW_heardN {α τ : oT} {n : Nat} (h : rW α τ n) (hn : n < 2 ^ 31) (x : Int32) : ∀ k, oHeardN α n x k = qWith τ n x false k
  | 0 => rfl
  | k + 1 => by
    simp only [oHeardN, qWith]
    rw [rW_heardN h hn x k, rW_heard h hn]
    by_cases c : qHeard τ n x (nI k) < 0
    · simp [c, bI]
    · simp [c, bI]
