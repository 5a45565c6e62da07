/-! the faces: what each call is refused with (0: not), alike for both; the reference's new memories -/
def cBuild (nS : Nat) (x : Int32) : Nat := if oRg x 3 20 = true then (if nS = 6 then 2 else 0) else 1
def cSetP (nS : Nat) (x y z : Int32) : Nat := if oIn x nS = true ∧ oRg y 0 23 = true then (if oRg z 0 99 = true then 0 else 2) else 1
def cSetT (nS : Nat) (x y z : Int32) : Nat := if oIn x nS = true ∧ oRg y 0 5 = true then (if oRg z 0 9 = true then 0 else 2) else 1
def cStreet (nS : Nat) (x y : Int32) : Nat := if oIn x nS = true ∧ oRg y 0 7 = true then 0 else 1
def cEar (nS : Nat) (x y : Int32) : Nat := if oIn x nS = true ∧ oRg y 0 5 = true then 0 else 1
def cAdd (nS nO : Nat) (P : Nat → Nat) (x y z : Int32) : Nat := if (oIn x nS && oIn y (P (oN x))) = true then (if oRg z 1 9 = true then (if nO = 8 then 3 else 0) else 2) else 1
def oBar (x : Int32) : Bool := decide (oN x < 100000000) && (decide (0 < oN x) && (List.range (oDg (oN x))).all (fun k => decide (1 ≤ oN x / 10 ^ k % 10) && decide (oN x / 10 ^ k % 10 ≤ 6)))
theorem oBar_iff {x : Int32} : oBar x = true ↔ oVB (oN x) := by
  unfold oBar oVB
  simp only [Bool.and_eq_true, decide_eq_true_iff, List.all_eq_true, List.mem_range]
def cBar (nO : Nat) (x y : Int32) : Nat := if oIn x nO = true then (if oBar y = true then 0 else 2) else 1
def cSend (nS nO : Nat) (P : Nat → Nat) (g : Int32) (x y z : Int32) : Nat := if oIn x nO = true ∧ (oIn y nS && oIn z (P (oN y))) = true then (if g ≤ 0 then 0 else 2) else 1
def cOrgan (nO : Nat) (x y : Int32) : Nat := if oIn x nO = true ∧ oRg y 0 10 = true then 0 else 1
def cBan (nS nO : Nat) (x y : Int32) : Nat := if oIn x nO = true ∧ oIn y nS = true then 0 else 1
def cHeard (nS : Nat) (P : Nat → Nat) (x y : Int32) : Nat := if (oIn x nS && oIn y (P (oN x))) = true then 0 else 1
def cPass (x : Int32) : Nat := if oRg x 1 100 = true then 0 else 1
def cCount (x : Int32) : Nat := if oRg x 0 7 = true then 0 else 1
def cFore (nO : Nat) (x y : Int32) : Nat := if oIn x nO = true then (if oRg y 1 100 = true then 0 else 2) else 1
def cAdv (nS nO : Nat) (x y z : Int32) : Nat := if oIn x nO = true ∧ oIn y nS = true then (if oRg z 1 24 = true then 0 else 2) else 1
def cByte (L : Nat) (x : Int32) : Nat := if oIn x L = true then 0 else 1
/-- the reference's answer -/
def mT (γ : oT) (k : Nat) : oT := su γ 41 0 0 (nI k)
theorem mT_k (γ : oT) (k : Nat) {a : Nat} (h : a ≠ 41) : mT γ k a = γ a := su_k _ _ _ _ h
/-- a street's taste at its beginning -/
def qT5 (τ : oT) (r : Nat) : Nat → oT
  | 0 => τ
  | k + 1 => su (qT5 τ r k) 2 0 (6 * r + k) 5
theorem qT5_k (τ : oT) (r k : Nat) {a : Nat} (h : a ≠ 2) : qT5 τ r k a = τ a := by
  induction k with
  | zero => rfl
  | succ k ih => rw [qT5, su_k _ _ _ _ h, ih]
def mBuild (τ : oT) (nS : Nat) (x : Int32) : oT := su (qT5 (su τ 1 0 nS x) nS 6) 40 0 1 (nI (nS + 1))
/-- an organ's wear taken away -/
def qW0 (τ : oT) (i : Nat) : Nat → oT
  | 0 => τ
  | k + 1 => su (qW0 τ i k) 13 0 (6 * i + k) 0
def mBar (τ : oT) (i : Nat) (x : Int32) : oT := qW0 (su (su τ 11 0 i x) 12 0 i 0) i 6
def mAdd (τ : oT) (i : Nat) (x y z : Int32) : oT := su (su (su (su (su τ 6 0 i x) 7 0 i y) 9 0 i z) 11 0 i 1) 40 0 2 (nI (i + 1))
/-- the hours on the way -/
def qFar (τ : oT) (i : Nat) (y z : Int32) : Int32 := if 0 < o_abs (y - τ 6 0 i) then 2 * o_abs (y - τ 6 0 i) else o_abs (z - τ 7 0 i) / 5
def mSend (τ : oT) (i : Nat) (y z : Int32) : oT := su (su (su τ 8 0 i (qFar τ i y z)) 6 0 i y) 7 0 i z
/-- what a street tells -/
def qStT (τ γ : oT) (nO nH r k : Nat) : Int32 := match k with
  | 0 => τ 1 0 r
  | 1 => γ 42 0 (24 * r + nH % 24)
  | 2 => qStandN τ (nI r) nO
  | 3 => qCo τ (nI r) (-1) (nO * 6)
  | 4 => τ 4 0 r
  | 5 => τ 5 0 r
  | 6 => qWith τ nO (nI r) true (qNp τ r)
  | _ => qWith τ nO (nI r) false (qNp τ r)
/-- hours gone by -/
def qPn (τ : oT) (ps : Nat → Int32) (nS nO nH : Nat) : Nat → oT
  | 0 => τ
  | k + 1 => qHour (qPn τ ps nS nO nH k) ps nS nO (nH + k)
def qPs (τ : oT) (ps : Nat → Int32) (nS nO nH : Nat) : Nat → Int32
  | 0 => 0
  | k + 1 => qPs τ ps nS nO nH k + (qOver (qPn τ ps nS nO nH (k + 1)) nO - qOver (qPn τ ps nS nO nH k) nO)
