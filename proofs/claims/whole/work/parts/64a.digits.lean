/-! Decimal digits as the JDK lays them -/
def sD (u : Nat) : Nat := if u = 0 then 1 else oDg u
theorem sD_pos (u : Nat) : 1 ≤ sD u := by
  unfold sD
  split
  · exact Nat.le_refl 1
  · rename_i h
    unfold oDg oDgF
    rw [if_neg h]; omega
theorem sD_10 {u : Nat} (h : u < 2 ^ 31) : sD u ≤ 10 := by
  unfold sD
  split
  · decide
  · exact oDg_10 h
theorem sD_k {u k : Nat} (h : u < 2 ^ 31) (hk : 1 ≤ k) : k < sD u ↔ u / 10 ^ k ≠ 0 := by
  unfold sD
  split
  · rename_i h0
    subst h0
    rw [Nat.zero_div]
    omega
  · exact oDg_lt h
theorem sD_lt {u : Nat} (h : u < 2 ^ 31) : u < 10 ^ sD u := by
  have h1 : ¬ sD u < sD u := Nat.lt_irrefl _
  rw [sD_k h (sD_pos u)] at h1
  have h2 : u / 10 ^ sD u = 0 := Decidable.not_not.mp h1
  rcases Nat.div_eq_zero_iff.mp h2 with h3 | h3
  · exact absurd h3 (Nat.ne_of_gt (Nat.pow_pos (by decide)))
  · exact h3
theorem sD_ge {u k : Nat} (h : u < 2 ^ 31) (hk : 1 ≤ k) (h1 : k < sD u) : 10 ^ k ≤ u := by
  rw [sD_k h hk] at h1
  rcases Nat.lt_or_ge u (10 ^ k) with h2 | h2
  · exact absurd (Nat.div_eq_of_lt h2) h1
  · exact h2
theorem o_p31 {j : Nat} (h : j < 10) : 10 ^ j < 2 ^ 31 := Nat.lt_of_le_of_lt (Nat.pow_le_pow_right (by decide) (show j ≤ 9 by omega)) (by decide)
theorem o_neg_n {x : Nat} (h : x < 2 ^ 31) : (-(nI x)).toInt = -(x : Int) := by
  have h1 := nI_toInt h
  rw [o_neg_toInt (by omega), h1]
theorem o_neg_le {a b : Nat} (ha : a < 2 ^ 31) (hb : b < 2 ^ 31) : -(nI a) ≤ -(nI b) ↔ b ≤ a := by
  rw [Int32.le_iff_toInt_le, o_neg_n ha, o_neg_n hb]; omega
theorem o_neg_lt {a b : Nat} (ha : a < 2 ^ 31) (hb : b < 2 ^ 31) : -(nI a) < -(nI b) ↔ b < a := by
  rw [Int32.lt_iff_toInt_lt, o_neg_n ha, o_neg_n hb]; omega
theorem o_neg100 {x : Nat} (h : x < 2 ^ 31) : (-100 : Int32) < -(nI x) ↔ x < 100 := o_neg_lt (a := 100) (by decide) h
theorem o_neg9 {x : Nat} (h : x < 2 ^ 31) : (-9 : Int32) ≤ -(nI x) ↔ x ≤ 9 := o_neg_le (a := 9) (by decide) h
theorem o_negp (j : Nat) : (10 : Int32) * -(nI (10 ^ j)) = -(nI (10 ^ (j + 1))) := by
  rw [Int32.mul_neg, show (10 : Int32) = nI 10 by decide, pk_mul, Nat.pow_succ, Nat.mul_comm]
theorem o_negdiv {x : Nat} (h : x < 2 ^ 31) : -(nI x) / 100 = -(nI (x / 100)) := by
  refine Int32.toInt_inj.mp ?_
  rw [Int32.toInt_div_of_ne_right _ _ (by decide), o_neg_n h, o_neg_n (Nat.lt_of_le_of_lt (Nat.div_le_self _ _) h), show (100 : Int32).toInt = 100 by decide, Int.neg_tdiv, Int.tdiv_eq_ediv_of_nonneg (by omega)]
  omega
theorem o_negrem (x : Nat) : -(nI (x / 100)) * 100 - -(nI x) = nI (x % 100) := by
  rw [Int32.neg_mul, show (100 : Int32) = nI 100 by decide, pk_mul, Int32.sub_neg, Int32.add_comm, ← Int32.sub_eq_add_neg, pk_sub (by omega)]
  exact congrArg nI (by omega)
theorem o_dec1 {n : Nat} (h : 0 < n) : nI n + (-1) = nI (n - 1) := by
  obtain ⟨k, rfl⟩ : ∃ k, n = k + 1 := ⟨n - 1, by omega⟩
  exact pk_m1 k
theorem o_dig8 {d : Nat} (h : d < 10) : nI (48 + d) = (nI (48 + d)).toInt8.toInt32 := by
  have : ∀ d, d < 10 → nI (48 + d) = (nI (48 + d)).toInt8.toInt32 := by decide +kernel
  exact this d h
theorem o_sub16 {q : Nat} (h : q ≤ 16) : nI q - 16 ≤ 0 := by
  have : ∀ q, q < 17 → nI q - 16 ≤ 0 := by decide +kernel
  exact this q (by omega)
/-- a digit from behind -/
def dgt (u p : Nat) : Int32 := nI (48 + u / 10 ^ p % 10)
/-- the last m digits laid before e -/
def dP (f : Nat → Int32) (e u m : Nat) : Nat → Int32 := fun j => if e - m ≤ j ∧ j < e then dgt u (e - 1 - j) else f j
theorem dP_0 (f : Nat → Int32) (e u : Nat) : dP f e u 0 = f := by
  funext j
  unfold dP
  rw [if_neg (by omega)]
theorem dP_1 {f : Nat → Int32} {e u m q : Nat} {x : Int32} (hm : m < e) (hq : q = e - m - 1) (hx : x = dgt u m) : upd (dP f e u m) q x = dP f e u (m + 1) := by
  subst hq; subst hx
  funext j
  unfold upd dP
  by_cases c : j = e - m - 1
  · rw [if_pos c, if_pos (by omega)]
    congr 1; omega
  · rw [if_neg c]
    by_cases d : e - m ≤ j ∧ j < e
    · rw [if_pos d, if_pos (by omega)]
    · rw [if_neg d, if_neg (by omega)]
theorem o_100 (u j : Nat) : u / 100 ^ j = u / 10 ^ (2 * j) := by rw [show (100 : Nat) = 10 ^ 2 by decide, ← Nat.pow_mul]
theorem dgt_0 (u j : Nat) : nI (48 + u / 100 ^ j % 100 % 10) = dgt u (2 * j) := by
  unfold dgt
  rw [o_100]
  exact congrArg nI (by omega)
theorem dgt_1 (u j : Nat) : nI (48 + u / 100 ^ j % 100 / 10) = dgt u (2 * j + 1) := by
  unfold dgt
  rw [o_100, Nat.pow_succ, ← Nat.div_div_eq_div_mul]
  exact congrArg nI (by omega)
theorem dgt_2 (u j : Nat) : nI (48 + u / 100 ^ j % 10) = dgt u (2 * j) := by
  unfold dgt
  rw [o_100]
theorem dgt_3 {u j : Nat} (h : u / 100 ^ j < 100) : nI (48 + u / 100 ^ j / 10) = dgt u (2 * j + 1) := by
  unfold dgt
  rw [o_100] at h ⊢
  rw [Nat.pow_succ, ← Nat.div_div_eq_div_mul]
  generalize u / 10 ^ (2 * j) = z at h ⊢
  exact congrArg nI (by omega)
theorem o_100lt {u j : Nat} (h : u < 2 ^ 31) (hj : j = (sD u - 1) / 2) : u / 100 ^ j < 100 ∧ (u / 100 ^ j ≤ 9 → sD u = 2 * j + 1) ∧ (9 < u / 100 ^ j → sD u = 2 * j + 2) := by
  have h1 := sD_pos u
  have e2 : u / 10 ^ (2 * j + 2) = u / 100 ^ j / 100 := by rw [o_100, Nat.pow_add, ← Nat.div_div_eq_div_mul]
  have e1 : u / 10 ^ (2 * j + 1) = u / 100 ^ j / 10 := by rw [o_100, Nat.pow_add, ← Nat.div_div_eq_div_mul]
  have a := sD_k h (show 1 ≤ 2 * j + 2 by omega)
  have b := sD_k h (show 1 ≤ 2 * j + 1 by omega)
  rw [e2] at a
  rw [e1] at b
  generalize u / 100 ^ j = z at a b ⊢
  omega
theorem o_100ge {u j : Nat} (h : u < 2 ^ 31) (hj : j < (sD u - 1) / 2) : 100 ≤ u / 100 ^ j := by
  have e2 : u / 10 ^ (2 * j + 2) = u / 100 ^ j / 100 := by rw [o_100, Nat.pow_add, ← Nat.div_div_eq_div_mul]
  have a := sD_k h (show 1 ≤ 2 * j + 2 by omega)
  rw [e2] at a
  generalize u / 100 ^ j = z at a ⊢
  omega
theorem o_100b {u : Nat} (j : Nat) (h : u < 2 ^ 31) : u / 100 ^ j < 2 ^ 31 := Nat.lt_of_le_of_lt (Nat.div_le_self _ _) h
theorem o_100s (u j : Nat) : u / 100 ^ j / 100 = u / 100 ^ (j + 1) := by rw [Nat.div_div_eq_div_mul, ← Nat.pow_succ]
/-- a number appended -/
def dA (f : Nat → Int32) (n u : Nat) : Nat → Int32 := dP f (n + sD u) u (sD u)
