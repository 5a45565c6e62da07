/-! three memories in hand, and the faces' tests -/
def z3 (a b c : oT) : oZ := fun t => match t with | 0 => a | 1 => b | _ => c
theorem z3_0 (a b c x : oT) : setT (z3 a b c) 0 x = z3 x b c := by
  funext q
  match q with
  | 0 => rfl
  | 1 => rfl
  | (n + 2) => rfl
theorem z3_1 (a b c x : oT) : setT (z3 a b c) 1 x = z3 a x c := by
  funext q
  match q with
  | 0 => rfl
  | 1 => rfl
  | (n + 2) => rfl
theorem tz0 (G : oG) (a b c x : oT) : tw G (z3 a b c) 0 x = cw G (z3 x b c) := by unfold tw; rw [z3_0]
theorem tz1 (G : oG) (a b c x : oT) : tw G (z3 a b c) 1 x = cw G (z3 a x c) := by unfold tw; rw [z3_1]
theorem mz0 (G : oG) (a b c x : oT) : mtw G (z3 a b c) 0 x = mw G (z3 x b c) := by unfold mtw; rw [z3_0]
theorem mz1 (G : oG) (a b c x : oT) : mtw G (z3 a b c) 1 x = mw G (z3 a x c) := by unfold mtw; rw [z3_1]
theorem cu_z0 {w : va_W} {G : oG} {a b c τ' : oT} (h : w = cw G (setT (z3 a b c) 0 τ')) : w = cw G (z3 τ' b c) := by rw [z3_0] at h; exact h
theorem cu_z1 {w : va_W} {G : oG} {a b c τ' : oT} (h : w = cw G (setT (z3 a b c) 1 τ')) : w = cw G (z3 a τ' c) := by rw [z3_1] at h; exact h
theorem mu_z0 {w : va_W} {G : oG} {a b c τ' : oT} (h : w = mw G (setT (z3 a b c) 0 τ')) : w = mw G (z3 τ' b c) := by rw [z3_0] at h; exact h
theorem mu_z1 {w : va_W} {G : oG} {a b c τ' : oT} (h : w = mw G (setT (z3 a b c) 1 τ')) : w = mw G (z3 a τ' c) := by rw [z3_1] at h; exact h
theorem wl_ext {g : Nat → Nat} {N : Nat} {f f' : Nat → va_E} (h : ∀ k, k < N → f k = f' k) : wl g N f = wl g N f' := List.map_congr_left (fun k hk => by rw [h k (List.mem_range.mp hk)])
/-- the worlds look at three memories alone -/
theorem cw_z3 (G : oG) (Z : oZ) : cw G Z = cw G (z3 (Z 0) (Z 1) (Z 2)) := by
  refine congrArg (wl G.2.1 137) (funext fun k => ?_)
  unfold cc
  rfl
theorem mw_z3 (G : oG) (Z : oZ) : mw G Z = mw G (z3 (Z 0) (Z 1) (Z 2)) := by
  refine wl_ext (fun k hk => ?_)
  unfold mcc
  by_cases h : k < 3
  · rw [if_pos h, if_pos h]; rfl
  · rw [if_neg h, if_neg h]
    rcases (show (k - 3) / 18 = 0 ∨ (k - 3) / 18 = 1 by omega) with h | h <;> rw [h] <;> rfl
theorem cw_zP {w : va_W} {G : oG} {a b c τ' : oT} (h : w = cw G (setT (z3 a b c) 2 τ')) : w = cw G (z3 a b τ') := by rw [cw_z3] at h; exact h
theorem mw_zP {w : va_W} {G : oG} {a b c τ' : oT} (h : w = mw G (setT (z3 a b c) 2 τ')) : w = mw G (z3 a b τ') := by rw [mw_z3] at h; exact h
/-- the number of an index -/
def oN (x : Int32) : Nat := x.toNatClampNeg
/-- from a to b -/
def oRg (v a b : Int32) : Bool := decide (a ≤ v) && decide (v ≤ b)
/-- an index below n -/
def oIn (x : Int32) (n : Nat) : Bool := decide (0 ≤ x) && decide (x < nI n)
theorem oN_nI {n : Nat} (h : n < 2 ^ 31) : oN (nI n) = n := by
  unfold oN nI
  rw [← Int32.toNat_toInt, Int32.toInt_ofNat_of_lt h]; rfl
theorem oN_of {x : Int32} (h : 0 ≤ x) : x = nI (oN x) := by
  refine Int32.toInt_inj.mp ?_
  have h0 : 0 ≤ x.toInt := Int32.le_iff_toInt_le.mp h
  have h1 := x.toInt_lt
  have h2 : (oN x : Int) = x.toInt := by unfold oN; rw [← Int32.toNat_toInt]; exact Int.toNat_of_nonneg h0
  unfold nI
  rw [Int32.toInt_ofNat_of_lt (by omega)]; exact h2.symm
theorem oIn_x {x : Int32} {n : Nat} (h : oIn x n = true) : x = nI (oN x) := oN_of (of_decide_eq_true ((Bool.and_eq_true _ _).mp h).1)
theorem oN_lt {x : Int32} : oN x < 2 ^ 31 := by
  have h1 := x.toInt_lt
  unfold oN; rw [← Int32.toNat_toInt]; omega
theorem oIn_lt {x : Int32} {n : Nat} (hn : n < 2 ^ 31) (h : oIn x n = true) : oN x < n := by
  have h1 := of_decide_eq_true ((Bool.and_eq_true _ _).mp h).2
  have h2 := oIn_x h
  have h3 := @oN_lt x
  rw [h2] at h1
  exact (o_nlt (a := oN x) (b := n) rfl rfl h3 hn).mp h1
theorem oIn_of {i n : Nat} (hi : i < n) (hn : n < 2 ^ 31) : oIn (nI i) n = true := by
  unfold oIn
  rw [Bool.and_eq_true]
  exact ⟨decide_eq_true ((o_nle (a := 0) (b := i) rfl rfl (by decide) (by omega)).mpr (by omega)), decide_eq_true ((o_nlt (a := i) (b := n) rfl rfl (by omega) hn).mpr hi)⟩
theorem oIn_0 (x : Int32) : oIn x 0 = false := by
  unfold oIn
  cases h : decide (0 ≤ x)
  · rfl
  · have h1 : ¬ x < nI 0 := Int32.not_lt.mpr (of_decide_eq_true h)
    simp [h1]
theorem nI0_m1 : nI 0 - 1 < 0 := by decide
theorem oRg_p (x : Int32) {n : Nat} (hn : n < 2 ^ 31) : oRg x 0 (nI n - 1) = oIn x n := by
  rw [Bool.eq_iff_iff]
  unfold oRg oIn
  rw [Bool.and_eq_true, Bool.and_eq_true, decide_eq_true_iff, decide_eq_true_iff, decide_eq_true_iff]
  refine and_congr_right (fun h0 => ?_)
  have h3 := @oN_lt x
  have e2 := o_nlt (oN_of h0) (rfl : nI n = nI n) h3 hn
  rcases Nat.eq_zero_or_pos n with h | h
  · subst h
    exact ⟨fun h1 => absurd nI0_m1 (Int32.not_lt.mpr (Int32.le_trans h0 h1)), fun h1 => absurd (e2.mp h1) (Nat.not_lt_zero _)⟩
  · obtain ⟨k, rfl⟩ : ∃ k, n = k + 1 := ⟨n - 1, by omega⟩
    rw [nI_pred]
    have e1 := o_nle (oN_of h0) (rfl : nI k = nI k) h3 (by omega)
    exact e1.trans (Iff.trans Nat.lt_succ_iff.symm e2.symm)
theorem oRg_x {x b : Int32} (h : oRg x 0 b = true) : x = nI (oN x) := oN_of (of_decide_eq_true ((Bool.and_eq_true _ _).mp h).1)
theorem oRg_le {x : Int32} {n : Nat} (hn : n < 2 ^ 31) (h : oRg x 0 (nI n) = true) : oN x ≤ n := by
  have h1 := of_decide_eq_true ((Bool.and_eq_true _ _).mp h).2
  have h2 := oRg_x h
  have h3 := @oN_lt x
  rw [h2] at h1
  exact (o_nle (a := oN x) (b := n) rfl rfl h3 hn).mp h1
theorem oRg_1 {x a b : Int32} (h : oRg x a b = true) : a ≤ x ∧ x ≤ b := ⟨of_decide_eq_true ((Bool.and_eq_true _ _).mp h).1, of_decide_eq_true ((Bool.and_eq_true _ _).mp h).2⟩
