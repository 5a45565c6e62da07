/-! Barrels as numbers, and what the reference's methods do to a state's memory. -/
/-- how many decimal digits -/
def oDgF : Nat → Nat → Nat
  | 0, _ => 0
  | f + 1, b => if b = 0 then 0 else oDgF f (b / 10) + 1
def oDg (b : Nat) : Nat := oDgF 10 b
theorem oDgF_lt : ∀ (f b k : Nat), b < 10 ^ f → (k < oDgF f b ↔ b / 10 ^ k ≠ 0)
  | 0, b, k, h => by
    have hb : b = 0 := by simpa using h
    subst hb
    simp [oDgF]
  | f + 1, b, k, h => by
    by_cases hb : b = 0
    · subst hb; simp [oDgF]
    · have e : oDgF (f + 1) b = oDgF f (b / 10) + 1 := by simp [oDgF, hb]
      rw [e]
      cases k with
      | zero => simp [hb]
      | succ k =>
        have ih := oDgF_lt f (b / 10) k (by rw [Nat.pow_succ] at h; exact Nat.div_lt_of_lt_mul (by omega))
        rw [Nat.div_div_eq_div_mul, show 10 * 10 ^ k = 10 ^ (k + 1) from (Nat.pow_succ' ..).symm] at ih
        omega
theorem oDg_lt {b k : Nat} (h : b < 2 ^ 31) : k < oDg b ↔ b / 10 ^ k ≠ 0 := oDgF_lt 10 b k (by omega)
theorem oDg_le {b k : Nat} (h : b < 2 ^ 31) : oDg b ≤ k ↔ b / 10 ^ k = 0 := by
  have := oDg_lt (k := k) h
  omega
theorem oDg_10 {b : Nat} (h : b < 2 ^ 31) : oDg b ≤ 10 := (oDg_le h).mpr (Nat.div_eq_of_lt (by omega))
theorem oDg_8 {b : Nat} (h : b < 100000000) : oDg b ≤ 8 := (oDg_le (by omega)).mpr (Nat.div_eq_of_lt (by omega))
theorem oDg_pos {b : Nat} (h : b < 2 ^ 31) (h0 : 0 < b) : 0 < oDg b := (oDg_lt h).mpr (by simp; omega)
theorem o_div10 {x : Int32} {b k : Nat} (hx : x = nI (b / 10 ^ k)) (hb : b < 2 ^ 31) : x / 10 = nI (b / 10 ^ (k + 1)) := by
  subst hx
  rw [show (10 : Int32) = nI 10 by decide, pk_div (Nat.lt_of_le_of_lt (Nat.div_le_self _ _) hb) (by decide) (by decide), Nat.div_div_eq_div_mul, ← Nat.pow_succ]
theorem o_rem_n {x : Int32} {a d : Nat} {y : Int32} (hx : x = nI a) (hy : y = nI d) (ha : a < 2 ^ 31) (h0 : 0 < d) (hd : d < 2 ^ 31) : o_rem x y = nI (a % d) := by
  subst hx; subst hy
  exact pk_rem ha h0 hd
theorem o_div_n {x : Int32} {a d : Nat} {y : Int32} (hx : x = nI a) (hy : y = nI d) (ha : a < 2 ^ 31) (h0 : 0 < d) (hd : d < 2 ^ 31) : x / y = nI (a / d) := by
  subst hx; subst hy
  exact pk_div ha h0 hd
theorem o_le0 {x : Int32} {n : Nat} (hx : x = nI n) (hn : n < 2 ^ 31) : x ≤ 0 ↔ n = 0 := by
  rw [o_nle hx (show (0 : Int32) = nI 0 by decide) hn (by decide)]
  omega
theorem o_lt0 {x : Int32} {n : Nat} (hx : x = nI n) (hn : n < 2 ^ 31) : x < 0 ↔ False := by
  rw [o_nlt hx (show (0 : Int32) = nI 0 by decide) hn (by decide)]
  exact ⟨fun h => absurd h (Nat.not_lt_zero _), False.elim⟩
theorem o_sub_n {x y : Int32} {a b : Nat} (hx : x = nI a) (hy : y = nI b) (h : b ≤ a) : x - y = nI (a - b) := by
  subst hx; subst hy
  exact pk_sub h
/-- a barrel: one to eight digits from 1 to 6 -/
def oVB (b : Nat) : Prop := b < 100000000 ∧ 0 < b ∧ ∀ k, k < oDg b → 1 ≤ b / 10 ^ k % 10 ∧ b / 10 ^ k % 10 ≤ 6
/-- the tune at the place p -/
def oTu (b p : Nat) : Nat := b / 10 ^ (oDg b - 1 - p) % 10 - 1
theorem oTu_lt {b p : Nat} (h : oVB b) (hp : p < oDg b) : oTu b p < 6 ∧ nI (b / 10 ^ (oDg b - 1 - p) % 10) - 1 = nI (oTu b p) := by
  have h1 := h.2.2 (oDg b - 1 - p) (by omega)
  refine ⟨by unfold oTu; omega, ?_⟩
  exact pk_sub (a := b / 10 ^ (oDg b - 1 - p) % 10) (b := 1) (by omega)
/-! ### a state -/
def qB (τ : oT) (i : Nat) : Nat := (τ 11 0 i).toNatClampNeg
def qP (τ : oT) (i : Nat) : Nat := (τ 12 0 i).toNatClampNeg
def qNp (τ : oT) (s : Nat) : Nat := (τ 1 0 s).toNatClampNeg
/-- a state of nS streets and nO organs at the hour nH -/
def qOK (τ : oT) (nS nO nH : Nat) : Prop := τ 40 0 1 = nI nS ∧ nS ≤ 6 ∧ τ 40 0 2 = nI nO ∧ nO ≤ 8 ∧ τ 40 0 0 = nI nH ∧ nH < 1000000 ∧ (∀ s, s < 6 → τ 1 0 s = nI (qNp τ s) ∧ qNp τ s ≤ 20) ∧ ∀ i, i < nO → τ 11 0 i = nI (qB τ i) ∧ oVB (qB τ i) ∧ τ 12 0 i = nI (qP τ i) ∧ qP τ i < oDg (qB τ i)
def qKp (σ τ : oT) : Prop := σ 1 = τ 1 ∧ σ 11 = τ 11 ∧ σ 12 = τ 12 ∧ σ 40 = τ 40
theorem qKp.rf (τ : oT) : qKp τ τ := ⟨rfl, rfl, rfl, rfl⟩
theorem qKp.tr {a b c : oT} (h : qKp a b) (h' : qKp b c) : qKp a c := ⟨h.1.trans h'.1, h.2.1.trans h'.2.1, h.2.2.1.trans h'.2.2.1, h.2.2.2.trans h'.2.2.2⟩
theorem qKp.su (τ : oT) {k : Nat} (i j : Nat) (x : Int32) (h : 1 ≠ k ∧ 11 ≠ k ∧ 12 ≠ k ∧ 40 ≠ k) : qKp (su τ k i j x) τ := ⟨su_k τ i j x h.1, su_k τ i j x h.2.1, su_k τ i j x h.2.2.1, su_k τ i j x h.2.2.2⟩
theorem qKp.ite {c : Prop} [Decidable c] {a b τ : oT} (h : qKp a τ) (h' : qKp b τ) : qKp (if c then a else b) τ := by
  by_cases hc : c
  · rw [if_pos hc]; exact h
  · rw [if_neg hc]; exact h'
theorem qOK.of {σ τ : oT} {nS nO nH : Nat} (h : qOK τ nS nO nH) (hk : qKp σ τ) : qOK σ nS nO nH := by
  unfold qOK qNp qB qP at *
  rw [hk.1, hk.2.1, hk.2.2.1, hk.2.2.2]
  exact h
def qTu (τ : oT) (i : Nat) : Nat := oTu (qB τ i) (qP τ i)
def qSnd (τ : oT) (i : Nat) (x y : Int32) : Int32 := if τ 6 0 i = x ∧ τ 8 0 i = 0 then o_max 0 (τ 9 0 i - o_abs (τ 7 0 i - y)) else 0
def qLd (τ : oT) (x y : Int32) : Nat → Int32
  | 0 => 0
  | i + 1 => o_max (qLd τ x y i) (qSnd τ i x y)
/-- who was found, and how many -/
def qHd (τ : oT) (x y L : Int32) : Nat → Int32 × Int32
  | 0 => (-1, 0)
  | i + 1 => if qSnd τ i x y = 0 ∨ qSnd τ i x y < L - 1 then qHd τ x y L i else (if qSnd τ i x y = L then nI i else (qHd τ x y L i).1, (qHd τ x y L i).2 + 1)
def qHeard (τ : oT) (n : Nat) (x y : Int32) : Int32 := if (qHd τ x y (qLd τ x y n) n).2 ≤ 1 then (qHd τ x y (qLd τ x y n) n).1 else -2
def qStd (τ : oT) (i : Nat) (x : Int32) : Bool := decide (τ 6 0 i = x) && decide (τ 8 0 i = 0)
def qStandN (τ : oT) (x : Int32) : Nat → Int32
  | 0 => 0
  | i + 1 => qStandN τ x i + bI (qStd τ i x)
def qWith (τ : oT) (n : Nat) (x : Int32) (b : Bool) : Nat → Int32
  | 0 => 0
  | k + 1 => qWith τ n x b k + bI (if b = true then decide (qHeard τ n x (nI k) = -2) else !decide (qHeard τ n x (nI k) < 0))
def qCo (τ : oT) (x y : Int32) : Nat → Int32
  | 0 => 0
  | k + 1 => if (x = -1 ∨ o_rem (nI k) 6 = x) ∧ (y = -1 ∨ nI k / 6 = y) then qCo τ x y k + τ 14 0 k else qCo τ x y k
def qOver (τ : oT) : Nat → Int32
  | 0 => 0
  | i + 1 => qOver τ i + τ 10 0 i
def qBS (τ : oT) (i : Nat) : Nat → Int32
  | 0 => 0
  | k + 1 => qBS τ i k + bI (!decide (τ 15 0 (6 * i + k) ≤ 0))
/-- does an organ that stands in the street play the tune -/
def qPl (τ : oT) (x y : Int32) : Nat → Bool
  | 0 => false
  | i + 1 => qPl τ x y i || (qStd τ i x && decide (nI (qTu τ i) = y))
theorem bI_or0 (a : Bool) : bI a ||| 0 = bI a := by cases a <;> rfl
theorem bI_or1 (a : Bool) : bI a ||| 1 = 1 := by cases a <;> rfl
theorem bI_or (a b : Bool) : bI a ||| bI b = bI (a || b) := by cases a <;> cases b <;> rfl
def qTire (τ : oT) (n s u : Nat) : oT := su τ 3 0 (6 * s + u) (if qPl τ (nI s) (nI u) n = true then o_min 9 (τ 3 0 (6 * s + u) + 2) else o_max 0 (τ 3 0 (6 * s + u) - 1))
/-- what an organ gets at a pitch where it is heard; passers: pas -/
def qCoin (τ : oT) (pas : Nat → Int32) (i s nH : Nat) : Int32 := pas (24 * s + nH % 24) * o_max 0 (τ 2 0 (6 * s + qTu τ i) - τ 3 0 (6 * s + qTu τ i) - τ 13 0 (6 * i + qTu τ i) / 10) / 10
/-- coins -/
def qL1 (τ : oT) (pas : Nat → Int32) (n s nH : Nat) (y : Int32) : oT := if qHeard τ n (nI s) y < 0 then τ else su (su τ 10 0 (qHeard τ n (nI s) y).toNatClampNeg (τ 10 0 (qHeard τ n (nI s) y).toNatClampNeg + qCoin τ pas (qHeard τ n (nI s) y).toNatClampNeg s nH)) 4 0 s (su τ 10 0 (qHeard τ n (nI s) y).toNatClampNeg (τ 10 0 (qHeard τ n (nI s) y).toNatClampNeg + qCoin τ pas (qHeard τ n (nI s) y).toNatClampNeg s nH) 4 0 s + qCoin τ pas (qHeard τ n (nI s) y).toNatClampNeg s nH)
/-- complaints; who: the answer before the coins -/
def qL2 (τ : oT) (s : Nat) (y w L : Int32) : Nat → oT
  | 0 => τ
  | i + 1 => if ¬ w = -2 then qL2 τ s y w L i else if qSnd (qL2 τ s y w L i) i (nI s) y ≤ 0 then qL2 τ s y w L i else if qSnd (qL2 τ s y w L i) i (nI s) y < L - 1 then qL2 τ s y w L i else su (qL2 τ s y w L i) 14 0 (6 * i + s) (qL2 τ s y w L i 14 0 (6 * i + s) + 1)
def qListen (τ : oT) (pas : Nat → Int32) (n s nH : Nat) (y : Int32) : oT := qL2 (qL1 τ pas n s nH y) s y (qHeard τ n (nI s) y) (qLd (qL1 τ pas n s nH y) (nI s) y n) n
theorem qL1_kp (τ : oT) (pas : Nat → Int32) (n s nH : Nat) (y : Int32) : qKp (qL1 τ pas n s nH y) τ := qKp.ite (qKp.rf τ) ((qKp.su _ _ _ _ (by decide)).tr (qKp.su _ _ _ _ (by decide)))
theorem qL2_kp (τ : oT) (s : Nat) (y w L : Int32) : ∀ i, qKp (qL2 τ s y w L i) τ
  | 0 => qKp.rf τ
  | i + 1 => by
    have ih := qL2_kp τ s y w L i
    simp only [qL2]
    split
    · exact ih
    · split
      · exact ih
      · split
        · exact ih
        · exact (qKp.su _ _ _ _ (by decide)).tr ih
theorem qListen_kp (τ : oT) (pas : Nat → Int32) (n s nH : Nat) (y : Int32) : qKp (qListen τ pas n s nH y) τ := (qL2_kp _ _ _ _ _ _).tr (qL1_kp _ _ _ _ _ _)
def qWo (τ : oT) (s : Nat) : Nat → Nat
  | 0 => 0
  | i + 1 => if τ 14 0 (6 * (i + 1) + s) ≤ τ 14 0 (6 * qWo τ s i + s) then qWo τ s i else i + 1
theorem qWo_le (τ : oT) (s : Nat) : ∀ n, qWo τ s n ≤ n
  | 0 => Nat.le_refl 0
  | n + 1 => by
    have ih := qWo_le τ s n
    simp only [qWo]
    split <;> omega
def qS1 (τ : oT) (w s : Nat) : oT := su (su (su τ 15 0 (6 * w + s) 24) 17 0 (6 * w + s) 1) 5 0 s (su (su τ 15 0 (6 * w + s) 24) 17 0 (6 * w + s) 1 5 0 s + 1)
def qZc (τ : oT) (s : Nat) : Nat → oT
  | 0 => τ
  | i + 1 => su (qZc τ s i) 14 0 (6 * i + s) 0
/-- where it goes to: looked for from the street before s backwards -/
def qTo (τ : oT) (w s nS : Nat) : Nat → Nat
  | 0 => s
  | j + 1 => if τ 15 0 (6 * w + (s + (nS - 1 - j)) % nS) = 0 then (s + (nS - 1 - j)) % nS else qTo τ w s nS j
def qS2 (τ : oT) (nO s : Nat) : oT := qZc (qS1 τ (qWo τ s (nO - 1)) s) s nO
def qSweep (τ : oT) (nS nO s : Nat) : oT := if ¬ qS2 τ nO s 6 0 (qWo τ s (nO - 1)) = nI s then qS2 τ nO s else if ¬ qS2 τ nO s 8 0 (qWo τ s (nO - 1)) ≤ 0 then qS2 τ nO s else su (su (su (qS2 τ nO s) 6 0 (qWo τ s (nO - 1)) (nI (qTo (qS2 τ nO s) (qWo τ s (nO - 1)) s nS (nS - 1)))) 7 0 (qWo τ s (nO - 1)) 0) 8 0 (qWo τ s (nO - 1)) 2
theorem qZc_kp (τ : oT) (s : Nat) : ∀ n, qKp (qZc τ s n) τ
  | 0 => qKp.rf τ
  | n + 1 => (qKp.su _ _ _ _ (by decide)).tr (qZc_kp τ s n)
theorem qS1_kp (τ : oT) (w s : Nat) : qKp (qS1 τ w s) τ := (qKp.su _ _ _ _ (by decide)).tr ((qKp.su _ _ _ _ (by decide)).tr (qKp.su _ _ _ _ (by decide)))
theorem qS2_kp (τ : oT) (nO s : Nat) : qKp (qS2 τ nO s) τ := (qZc_kp _ _ _).tr (qS1_kp _ _ _)
theorem qSweep_kp (τ : oT) (nS nO s : Nat) : qKp (qSweep τ nS nO s) τ := qKp.ite (qS2_kp _ _ _) (qKp.ite (qS2_kp _ _ _) ((qKp.su _ _ _ _ (by decide)).tr ((qKp.su _ _ _ _ (by decide)).tr ((qKp.su _ _ _ _ (by decide)).tr (qS2_kp _ _ _)))))
/-- an hour, step by step -/
def q1 (τ : oT) : Nat → oT
  | 0 => τ
  | i + 1 => su (q1 τ i) 16 0 i (bI (!decide (q1 τ i 8 0 i ≤ 0)))
def q2 (τ : oT) : Nat → oT
  | 0 => τ
  | i + 1 => su (q2 τ i) 17 0 i 0
def q3s (τ : oT) (pas : Nat → Int32) (n s nH : Nat) : Nat → oT
  | 0 => τ
  | k + 1 => qListen (q3s τ pas n s nH k) pas n s nH (nI k)
def q3 (τ : oT) (pas : Nat → Int32) (n nH : Nat) : Nat → oT
  | 0 => τ
  | s + 1 => q3s (q3 τ pas n nH s) pas n s nH (qNp (q3 τ pas n nH s) s)
def q4s (τ : oT) (n s : Nat) : Nat → oT
  | 0 => τ
  | u + 1 => qTire (q4s τ n s u) n s u
def q4 (τ : oT) (n : Nat) : Nat → oT
  | 0 => τ
  | s + 1 => q4s (q4 τ n s) n s 6
def qT1 (τ : oT) (i : Nat) : oT := su τ 13 0 (6 * i + qTu τ i) (o_min 90 (τ 13 0 (6 * i + qTu τ i) + 1))
def qTurn (τ : oT) (i : Nat) : oT := su (qT1 τ i) 12 0 i (o_rem (qT1 τ i 12 0 i + 1) (nI (oDg (qB (qT1 τ i) i))))
theorem qT1_kp (τ : oT) (i : Nat) : qKp (qT1 τ i) τ := qKp.su _ _ _ _ (by decide)
theorem qTurn_12 {τ : oT} {nS nO nH : Nat} (h : qOK τ nS nO nH) {i : Nat} (hi : i < nO) : o_rem (qT1 τ i 12 0 i + 1) (nI (oDg (qB (qT1 τ i) i))) = nI ((qP τ i + 1) % oDg (qB τ i)) := by
  obtain ⟨m1, m2, m3, m4⟩ := h.2.2.2.2.2.2.2 i hi
  have e12 : qT1 τ i 12 = τ 12 := (qT1_kp τ i).2.2.1
  have eB : qB (qT1 τ i) i = qB τ i := by unfold qB; rw [(qT1_kp τ i).2.1]
  have h8 := oDg_8 m2.1
  rw [e12, eB]
  exact o_rem_n (o_nadd m3 (show (1 : Int32) = nI 1 by decide)) rfl (by omega) (by omega) (by omega)
def q5 (τ : oT) : Nat → oT
  | 0 => τ
  | i + 1 => if ¬ q5 τ i 16 0 i = 0 then q5 τ i else qTurn (q5 τ i) i
def q6 (τ : oT) (nS n : Nat) : Nat → oT
  | 0 => τ
  | s + 1 => if qCo (q6 τ nS n s) (nI s) (-1) (n * 6) < 10 then q6 τ nS n s else qSweep (q6 τ nS n s) nS n s
def q7 (τ : oT) : Nat → oT
  | 0 => τ
  | i + 1 => if q7 τ i 16 0 i = 0 then q7 τ i else su (q7 τ i) 8 0 i (q7 τ i 8 0 i - 1)
def q8 (τ : oT) : Nat → oT
  | 0 => τ
  | k + 1 => if ¬ q8 τ k 17 0 k = 0 then q8 τ k else su (q8 τ k) 15 0 k (o_max 0 (q8 τ k 15 0 k - 1))
theorem q1_kp (τ : oT) : ∀ n, qKp (q1 τ n) τ
  | 0 => qKp.rf τ
  | n + 1 => (qKp.su _ _ _ _ (by decide)).tr (q1_kp τ n)
theorem q2_kp (τ : oT) : ∀ n, qKp (q2 τ n) τ
  | 0 => qKp.rf τ
  | n + 1 => (qKp.su _ _ _ _ (by decide)).tr (q2_kp τ n)
theorem q3s_kp (τ : oT) (pas : Nat → Int32) (n s nH : Nat) : ∀ k, qKp (q3s τ pas n s nH k) τ
  | 0 => qKp.rf τ
  | k + 1 => (qListen_kp _ _ _ _ _ _).tr (q3s_kp τ pas n s nH k)
theorem q3_kp (τ : oT) (pas : Nat → Int32) (n nH : Nat) : ∀ s, qKp (q3 τ pas n nH s) τ
  | 0 => qKp.rf τ
  | s + 1 => (q3s_kp _ _ _ _ _ _).tr (q3_kp τ pas n nH s)
theorem q4s_kp (τ : oT) (n s : Nat) : ∀ u, qKp (q4s τ n s u) τ
  | 0 => qKp.rf τ
  | u + 1 => (qKp.su _ _ _ _ (by decide)).tr (q4s_kp τ n s u)
theorem q4_kp (τ : oT) (n : Nat) : ∀ s, qKp (q4 τ n s) τ
  | 0 => qKp.rf τ
  | s + 1 => (q4s_kp _ _ _ _).tr (q4_kp τ n s)
theorem q6_kp (τ : oT) (nS n : Nat) : ∀ s, qKp (q6 τ nS n s) τ
  | 0 => qKp.rf τ
  | s + 1 => qKp.ite (q6_kp τ nS n s) ((qSweep_kp _ _ _ _).tr (q6_kp τ nS n s))
theorem q7_kp (τ : oT) : ∀ n, qKp (q7 τ n) τ
  | 0 => qKp.rf τ
  | n + 1 => qKp.ite (q7_kp τ n) ((qKp.su _ _ _ _ (by decide)).tr (q7_kp τ n))
theorem q8_kp (τ : oT) : ∀ n, qKp (q8 τ n) τ
  | 0 => qKp.rf τ
  | n + 1 => qKp.ite (q8_kp τ n) ((qKp.su _ _ _ _ (by decide)).tr (q8_kp τ n))
theorem qTurn_ok {τ : oT} {nS nO nH : Nat} (h : qOK τ nS nO nH) (i : Nat) (hi : i < nO) : qOK (qTurn τ i) nS nO nH := by
  have h12 := qTurn_12 h hi
  obtain ⟨a, b, c, d, f, g, k, m⟩ := h
  have e1 : qTurn τ i 1 = τ 1 := by unfold qTurn qT1; rw [su_k _ _ _ _ (by decide), su_k _ _ _ _ (by decide)]
  have e11 : qTurn τ i 11 = τ 11 := by unfold qTurn qT1; rw [su_k _ _ _ _ (by decide), su_k _ _ _ _ (by decide)]
  have e40 : qTurn τ i 40 = τ 40 := by unfold qTurn qT1; rw [su_k _ _ _ _ (by decide), su_k _ _ _ _ (by decide)]
  have e12 : ∀ j, qTurn τ i 12 0 j = if j = i then nI ((qP τ i + 1) % oDg (qB τ i)) else τ 12 0 j := fun j => by
    unfold qTurn
    rw [h12, su_at, show qT1 τ i 12 = τ 12 from (qT1_kp τ i).2.2.1]
    simp
  have eB : ∀ j, qB (qTurn τ i) j = qB τ j := fun j => by unfold qB; rw [e11]
  have eN : ∀ j, qNp (qTurn τ i) j = qNp τ j := fun j => by unfold qNp; rw [e1]
  have eP : ∀ j, qP (qTurn τ i) j = if j = i then (qP τ i + 1) % oDg (qB τ i) else qP τ j := fun j => by
    show (qTurn τ i 12 0 j).toNatClampNeg = _
    rw [e12]
    by_cases hji : j = i
    · have h8 := oDg_8 (m i hi).2.1.1
      have hm := Nat.mod_lt (qP τ i + 1) (show oDg (qB τ i) > 0 by have := (m i hi).2.2.2; omega)
      rw [if_pos hji, if_pos hji, nI_clamp (by omega)]
    · rw [if_neg hji, if_neg hji]; rfl
  refine ⟨by rw [e40]; exact a, b, by rw [e40]; exact c, d, by rw [e40]; exact f, g, fun s hs => by rw [eN, e1]; exact k s hs, fun j hj => ?_⟩
  obtain ⟨m1, m2, m3, m4⟩ := m j hj
  rw [e11, eB, e12, eP]
  refine ⟨m1, m2, ?_⟩
  by_cases hji : j = i
  · subst hji
    rw [if_pos rfl, if_pos rfl]
    exact ⟨rfl, Nat.mod_lt _ (by omega)⟩
  · rw [if_neg hji, if_neg hji]
    exact ⟨m3, m4⟩
theorem q5_ok {τ : oT} {nS nO nH : Nat} (h : qOK τ nS nO nH) : ∀ i, i ≤ nO → qOK (q5 τ i) nS nO nH
  | 0, _ => h
  | i + 1, hi => by
    have ih := q5_ok h i (by omega)
    simp only [q5]
    split
    · exact ih
    · exact qTurn_ok ih i (by omega)
def qH2 (τ : oT) (nO : Nat) : oT := q2 (q1 τ nO) 48
def qH3 (τ : oT) (pas : Nat → Int32) (nS nO nH : Nat) : oT := q3 (qH2 τ nO) pas nO nH nS
def qH4 (τ : oT) (pas : Nat → Int32) (nS nO nH : Nat) : oT := q4 (qH3 τ pas nS nO nH) nO nS
def qH5 (τ : oT) (pas : Nat → Int32) (nS nO nH : Nat) : oT := q5 (qH4 τ pas nS nO nH) nO
def qH6 (τ : oT) (pas : Nat → Int32) (nS nO nH : Nat) : oT := q6 (qH5 τ pas nS nO nH) nS nO nS
def qH8 (τ : oT) (pas : Nat → Int32) (nS nO nH : Nat) : oT := q8 (q7 (qH6 τ pas nS nO nH) nO) 48
def qHour (τ : oT) (pas : Nat → Int32) (nS nO nH : Nat) : oT := su (qH8 τ pas nS nO nH) 40 0 0 (qH8 τ pas nS nO nH 40 0 0 + 1)
theorem qHd_in (τ : oT) (x y L : Int32) : ∀ n, n < 2 ^ 31 → (qHd τ x y L n).1 = -1 ∨ ∃ j, j < n ∧ (qHd τ x y L n).1 = nI j
  | 0, _ => Or.inl rfl
  | n + 1, hn => by
    have ih := qHd_in τ x y L n (by omega)
    have up : (qHd τ x y L n).1 = -1 ∨ ∃ j, j < n + 1 ∧ (qHd τ x y L n).1 = nI j := ih.imp id (fun ⟨j, hj, e⟩ => ⟨j, by omega, e⟩)
    simp only [qHd]
    split
    · exact up
    · by_cases h : qSnd τ n x y = L
      · simp only [if_pos h]; exact Or.inr ⟨n, by omega, rfl⟩
      · simp only [if_neg h]; exact up
theorem qHeard_in {τ : oT} {n : Nat} {x y : Int32} (hn : n < 2 ^ 31) (h : ¬ qHeard τ n x y < 0) : qHeard τ n x y = nI (qHeard τ n x y).toNatClampNeg ∧ (qHeard τ n x y).toNatClampNeg < n := by
  by_cases hc : (qHd τ x y (qLd τ x y n) n).2 ≤ 1
  · have e : qHeard τ n x y = (qHd τ x y (qLd τ x y n) n).1 := if_pos hc
    rw [e] at h ⊢
    rcases qHd_in τ x y (qLd τ x y n) n hn with h1 | ⟨j, hj, h1⟩
    · rw [h1] at h; exact absurd (by decide) h
    · rw [h1, nI_clamp (by omega)]; exact ⟨rfl, hj⟩
  · have e : qHeard τ n x y = -2 := if_neg hc
    rw [e] at h; exact absurd (by decide) h
theorem qHour_ok0 {τ : oT} {nS nO nH : Nat} (h : qOK τ nS nO nH) (hn : nH + 1 < 1000000) : qOK (su τ 40 0 0 (τ 40 0 0 + 1)) nS nO (nH + 1) := by
  obtain ⟨a, b, c, d, f, g, k, m⟩ := h
  refine ⟨?_, b, ?_, d, ?_, hn, ?_, ?_⟩
  · rw [← a]; simp [su]
  · rw [← c]; simp [su]
  · rw [su_s, f, nI_1]
  · intro s hs
    unfold qNp
    rw [su_k _ _ _ _ (by decide)]
    exact k s hs
  · intro i hi
    unfold qB qP
    rw [su_k _ _ _ _ (by decide), su_k _ _ _ _ (by decide)]
    exact m i hi
theorem qL2_ne {τ : oT} {s : Nat} {y w L : Int32} (h : ¬ w = -2) : ∀ i, qL2 τ s y w L i = τ
  | 0 => rfl
  | i + 1 => (if_pos h).trans (qL2_ne h i)
