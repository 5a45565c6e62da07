/-! the faces: what each call is refused with (0: not), alike for both; the reference's new memories -/
def cBuild (nS : Nat) (x : Int32) : Nat := if oRg x 3 20 = true then (if nS = 6 then 2 else 0) else 1
def cSetP (nS : Nat) (x y z : Int32) : Nat := if oIn x nS = true ∧ oRg y 0 23 = true then (if oRg z 0 99 = true then 0 else 2) else 1
def cSetT (nS : Nat) (x y z : Int32) : Nat := if oIn x nS = true ∧ oRg y 0 5 = true then (if oRg z 0 9 = true then 0 else 2) else 1
def cStreet (nS : Nat) (x y : Int32) : Nat := if oIn x nS = true ∧ oRg y 0 7 = true then 0 else 1
def cEar (nS : Nat) (x y : Int32) : Nat := if oIn x nS = true ∧ oRg y 0 5 = true then 0 else 1
def cAdd (nS nO : Nat) (P : Nat → Nat) (x y z : Int32) : Nat := if (oIn x nS && oIn y (P (oN x))) = true then (if oRg z 1 9 = true then (if nO = 8 then 3 else 0) else 2) else 1
def oBar (x : Int32) : Bool := decide (oN x < 100000000) && (decide (0 < oN x) && (List.range (oDg (oN x))).all (fun k => decide (1 ≤ oN x / 10 ^ k % 10) && decide (oN x / 10 ^ k % 10 ≤ 6)))
theorem oBar_iff {x : Int32} : oBar x = true ↔ oVB (oN x) := by
  unfold oBar oVB
  simp only [Bool.and_eq_true, decide_eq_true_iff, List.all_eq_true, List.mem_range]
def cBar (nO : Nat) (x y : Int32) : Nat := if oIn x nO = true then (if oBar y = true then 0 else 2) else 1
def cSend (nS nO : Nat) (P : Nat → Nat) (g : Int32) (x y z : Int32) : Nat := if oIn x nO = true ∧ (oIn y nS && oIn z (P (oN y))) = true then (if g ≤ 0 then 0 else 2) else 1
def cOrgan (nO : Nat) (x y : Int32) : Nat := if oIn x nO = true ∧ oRg y 0 10 = true then 0 else 1
def cBan (nS nO : Nat) (x y : Int32) : Nat := if oIn x nO = true ∧ oIn y nS = true then 0 else 1
def cHeard (nS : Nat) (P : Nat → Nat) (x y : Int32) : Nat := if (oIn x nS && oIn y (P (oN x))) = true then 0 else 1
def cPass (x : Int32) : Nat := if oRg x 1 100 = true then 0 else 1
def cCount (x : Int32) : Nat := if oRg x 0 7 = true then 0 else 1
def cFore (nO : Nat) (x y : Int32) : Nat := if oIn x nO = true then (if oRg y 1 100 = true then 0 else 2) else 1
def cAdv (nS nO : Nat) (x y z : Int32) : Nat := if oIn x nO = true ∧ oIn y nS = true then (if oRg z 1 24 = true then 0 else 2) else 1
def cByte (L : Nat) (x : Int32) : Nat := if oIn x L = true then 0 else 1
/-- the reference's answer -/
def mT (γ : oT) (k : Nat) : oT := su γ 41 0 0 (nI k)
theorem mT_k (γ : oT) (k : Nat) {a : Nat} (h : a ≠ 41) : mT γ k a = γ a := su_k _ _ _ _ h
/-- a street's taste at its beginning -/
def qT5 (τ : oT) (r : Nat) : Nat → oT
  | 0 => τ
  | k + 1 => su (qT5 τ r k) 2 0 (6 * r + k) 5
theorem qT5_k (τ : oT) (r k : Nat) {a : Nat} (h : a ≠ 2) : qT5 τ r k a = τ a := by
  induction k with
  | zero => rfl
  | succ k ih => rw [qT5, su_k _ _ _ _ h, ih]
def mBuild (τ : oT) (nS : Nat) (x : Int32) : oT := su (qT5 (su τ 1 0 nS x) nS 6) 40 0 1 (nI (nS + 1))
/-- an organ's wear taken away -/
def qW0 (τ : oT) (i : Nat) : Nat → oT
  | 0 => τ
  | k + 1 => su (qW0 τ i k) 13 0 (6 * i + k) 0
def mBar (τ : oT) (i : Nat) (x : Int32) : oT := qW0 (su (su τ 11 0 i x) 12 0 i 0) i 6
def mAdd (τ : oT) (i : Nat) (x y z : Int32) : oT := su (su (su (su (su τ 6 0 i x) 7 0 i y) 9 0 i z) 11 0 i 1) 40 0 2 (nI (i + 1))
/-- the hours on the way -/
def qFar (τ : oT) (i : Nat) (y z : Int32) : Int32 := if o_abs (y - τ 6 0 i) ≤ 0 then o_abs (z - τ 7 0 i) / 5 else 2 * o_abs (y - τ 6 0 i)
def mSend (τ : oT) (i : Nat) (y z : Int32) : oT := su (su (su τ 8 0 i (qFar τ i y z)) 6 0 i y) 7 0 i z
/-- what a street tells -/
def qStT (τ γ : oT) (nO nH r k : Nat) : Int32 := match k with
  | 0 => τ 1 0 r
  | 1 => γ 42 0 (24 * r + nH % 24)
  | 2 => qStandN τ (nI r) nO
  | 3 => qCo τ (nI r) (-1) (nO * 6)
  | 4 => τ 4 0 r
  | 5 => τ 5 0 r
  | 6 => qWith τ nO (nI r) true (qNp τ r)
  | _ => qWith τ nO (nI r) false (qNp τ r)
/-- hours gone by -/
def qPn (τ : oT) (ps : Nat → Int32) (nS nO nH : Nat) : Nat → oT
  | 0 => τ
  | k + 1 => qHour (qPn τ ps nS nO nH k) ps nS nO (nH + k)
def qPs (τ : oT) (ps : Nat → Int32) (nS nO nH : Nat) : Nat → Int32
  | 0 => 0
  | k + 1 => qPs τ ps nS nO nH k + (qOver (qPn τ ps nS nO nH (k + 1)) nO - qOver (qPn τ ps nS nO nH k) nO)
theorem qHour_ok {τ : oT} {nS nO nH : Nat} {pas : Nat → Int32} (h : qOK τ nS nO nH) (hn : nH + 1 < 1000000) : qOK (qHour τ pas nS nO nH) nS nO (nH + 1) :=
  qHour_ok0 (((((q5_ok (((h.of (q1_kp _ _)).of (q2_kp _ _)).of (q3_kp _ _ _ _ _) |>.of (q4_kp _ _ _)) nO (Nat.le_refl _)).of (q6_kp _ _ _ _)).of (q7_kp _ _)).of (q8_kp _ _))) hn
theorem qPn_ok {τ : oT} {nS nO nH : Nat} {pas : Nat → Int32} (h : qOK τ nS nO nH) : ∀ k, nH + k < 1000000 → qOK (qPn τ pas nS nO nH k) nS nO (nH + k)
  | 0, _ => h
  | k + 1, hk => qHour_ok (qPn_ok h k (by omega)) (by omega)
/-- the lengths of a state's rows -/
def qBl (k : Nat) : Nat := match k with
  | 1 => 6 | 2 => 36 | 3 => 36 | 4 => 6 | 5 => 6 | 13 => 48 | 14 => 48 | 15 => 48 | _ => 8
/-- a state that became another, as far as the row k -/
def qBc (α β : oT) : Nat → oT
  | 0 => su (su (su β 40 0 0 (α 40 0 0)) 40 0 1 (α 40 0 1)) 40 0 2 (α 40 0 2)
  | k + 1 => sw (qBc α β k) (k + 1) 0 (va_cpy (α (k + 1) 0) (qBc α β k (k + 1) 0) 0 0 (qBl (k + 1)))
theorem sw_row (τ : oT) (k i : Nat) (h : Nat → Int32) : sw τ k i h k i = h := by funext j; simp [sw]
theorem sw_kne (τ : oT) {k a : Nat} (i : Nat) (h : Nat → Int32) (ha : a ≠ k) : sw τ k i h a = τ a := by funext b j; simp [sw, ha]
theorem qBc_at (α β : oT) {a : Nat} (ha : 1 ≤ a) : ∀ k, a ≤ k → ∀ j, j < qBl a → qBc α β k a 0 j = α a 0 j
  | 0, h => by omega
  | k + 1, h => by
    intro j hj
    by_cases e : a = k + 1
    · subst e
      rw [qBc, sw_row, va_cpy, if_pos ⟨Nat.zero_le _, by omega⟩]
      rw [Nat.sub_zero, Nat.zero_add]
    · rw [qBc, sw_kne _ _ _ e]
      exact qBc_at α β ha k (by omega) j hj
theorem qBc_40 (α β : oT) : ∀ k, k < 39 → ∀ j, j < 3 → qBc α β k 40 0 j = α 40 0 j
  | 0, _ => by
    intro j hj
    rcases (show j = 0 ∨ j = 1 ∨ j = 2 by omega) with rfl | rfl | rfl <;> rfl
  | k + 1, h => by
    intro j hj
    rw [qBc, sw_kne _ _ _ (by omega)]
    exact qBc_40 α β k (by omega) j hj
theorem qBc_ok {α β : oT} {nS nO nH : Nat} (h : qOK α nS nO nH) : qOK (qBc α β 15) nS nO nH := by
  obtain ⟨h1, h2, h3, h4, h5, h6, h7, h8⟩ := h
  refine ⟨?_, h2, ?_, h4, ?_, h6, ?_, ?_⟩
  · rw [qBc_40 _ _ _ (by decide) _ (by decide)]; exact h1
  · rw [qBc_40 _ _ _ (by decide) _ (by decide)]; exact h3
  · rw [qBc_40 _ _ _ (by decide) _ (by decide)]; exact h5
  · intro s hs
    unfold qNp
    rw [qBc_at _ _ (by decide) 15 (by decide) s (show s < qBl 1 from hs)]
    exact h7 s hs
  · intro i hi
    unfold qB qP
    rw [qBc_at _ _ (by decide) 15 (by decide) i (show i < qBl 11 from by have : qBl 11 = 8 := rfl; omega), qBc_at _ _ (by decide) 15 (by decide) i (show i < qBl 12 from by have : qBl 12 = 8 := rfl; omega)]
    exact h8 i hi
/-- a barrel's rest, and whether its digit before is a tune -/
def oBr (x : Int32) : Nat → Int32
  | 0 => x
  | k + 1 => oBr x k / 10
def oBi (x : Int32) : Nat → Bool
  | 0 => decide (0 < x) && decide (x < 100000000)
  | k + 1 => oRg (o_rem (oBr x k) 10) 1 6
def oBg (x : Int32) (k : Nat) : Prop := ∀ j, j < k → 0 < oBr x j ∧ oBi x j = true
theorem oBg_s {x : Int32} {k : Nat} (h : oBg x k) (h1 : ¬ oBr x k ≤ 0) (h2 : oBi x k = true) : oBg x (k + 1) := by
  intro j hj
  by_cases e : j = k
  · subst e; exact ⟨Int32.not_le.mp h1, h2⟩
  · exact h j (by omega)
theorem oBr_n {x : Int32} (h : 0 ≤ x) : ∀ k, oBr x k = nI (oN x / 10 ^ k)
  | 0 => by rw [Nat.pow_zero, Nat.div_one]; exact oN_of h
  | k + 1 => o_div10 (oBr_n h k) oN_lt
theorem oBi_n {x : Int32} (h : 0 ≤ x) (k : Nat) : oBi x (k + 1) = true ↔ 1 ≤ oN x / 10 ^ k % 10 ∧ oN x / 10 ^ k % 10 ≤ 6 := by
  have hl : oN x / 10 ^ k < 2 ^ 31 := Nat.lt_of_le_of_lt (Nat.div_le_self _ _) oN_lt
  have e : o_rem (oBr x k) 10 = nI (oN x / 10 ^ k % 10) := o_rem_n (oBr_n h k) rfl hl (by decide) (by decide)
  have hm : oN x / 10 ^ k % 10 < 10 := Nat.mod_lt _ (by decide)
  show oRg (o_rem (oBr x k) 10) 1 6 = true ↔ _
  unfold oRg
  rw [e, Bool.and_eq_true, decide_eq_true_iff, decide_eq_true_iff, o_nle (x := (1 : Int32)) (a := 1) (b := oN x / 10 ^ k % 10) rfl rfl (by decide) (by omega), o_nle (y := (6 : Int32)) (a := oN x / 10 ^ k % 10) (b := 6) rfl rfl (by omega) (by decide)]
theorem oBi_0 {x : Int32} (h : 0 ≤ x) : oBi x 0 = true ↔ 0 < oN x ∧ oN x < 100000000 := by
  unfold oBi
  rw [Bool.and_eq_true, decide_eq_true_iff, decide_eq_true_iff, o_nlt (x := (0 : Int32)) (a := 0) (b := oN x) rfl (oN_of h) (by decide) oN_lt, o_nlt (y := (100000000 : Int32)) (a := oN x) (b := 100000000) (oN_of h) rfl oN_lt (by decide)]
theorem oN_0 {x : Int32} (h : x ≤ 0) : oN x = 0 := by
  have h0 : x.toInt ≤ 0 := Int32.le_iff_toInt_le.mp h
  unfold oN; rw [← Int32.toNat_toInt]; omega
theorem oBr_pos {x : Int32} (h : 0 ≤ x) (k : Nat) : 0 < oBr x k ↔ k < oDg (oN x) := by
  have hl : oN x / 10 ^ k < 2 ^ 31 := Nat.lt_of_le_of_lt (Nat.div_le_self _ _) oN_lt
  rw [o_nlt (x := (0 : Int32)) (a := 0) (b := oN x / 10 ^ k) rfl (oBr_n h k) (by decide) hl, oDg_lt oN_lt]
  exact Nat.pos_iff_ne_zero
theorem oBg_x {x : Int32} {k : Nat} (h : oBg x (k + 1)) : 0 ≤ x := Int32.le_of_lt (h 0 (by omega)).1
theorem oBg_end {x : Int32} (h : oBg x 40) : False := by
  have h0 := oBg_x h
  have h1 := (oBr_pos h0 39).mp (h 39 (by omega)).1
  have h2 := oDg_10 (@oN_lt x)
  omega
theorem oBar_e1 {x : Int32} {k : Nat} (hg : oBg x k) (h : oBr x k ≤ 0) : oBi x k = oBar x := by
  rw [Bool.eq_iff_iff, oBar_iff]
  unfold oVB
  match k, hg, h with
  | 0, hg, h =>
    have e := oN_0 (x := x) h
    constructor
    · intro h1
      have h2 : 0 < x := of_decide_eq_true ((Bool.and_eq_true _ _).mp h1).1
      exact absurd h (Int32.not_le.mpr h2)
    · intro h1; have := h1.2.1; omega
  | k + 1, hg, h =>
    have h0 := oBg_x hg
    have hb := (oBi_0 h0).mp (hg 0 (by omega)).2
    have hk : ¬ k + 1 < oDg (oN x) := fun h1 => absurd ((oBr_pos h0 _).mpr h1) (Int32.not_lt.mpr h)
    have hk1 := (oBr_pos h0 k).mp (hg k (by omega)).1
    rw [oBi_n h0]
    constructor
    · intro h1
      refine ⟨hb.2, hb.1, fun j hj => ?_⟩
      by_cases e : j = k
      · subst e; exact h1
      · exact (oBi_n h0 j).mp (hg (j + 1) (by omega)).2
    · intro h1; exact h1.2.2 k hk1
theorem oBar_e2 {x : Int32} {k : Nat} (hg : oBg x k) (h : ¬ oBr x k ≤ 0) (h2 : oBi x k = false) : false = oBar x := by
  refine Eq.symm ?_
  rw [Bool.eq_false_iff]
  intro hb
  have hv := oBar_iff.mp hb
  have h' := Int32.not_le.mp h
  match k, hg, h', h2 with
  | 0, hg, h', h2 =>
    have := (oBi_0 (x := x) (Int32.le_of_lt h')).mpr ⟨hv.2.1, hv.1⟩
    rw [h2] at this; exact absurd this (by decide)
  | k + 1, hg, h', h2 =>
    have h0 := oBg_x hg
    have hk1 := (oBr_pos h0 k).mp (hg k (by omega)).1
    have := (oBi_n h0 k).mpr (hv.2.2 k hk1)
    rw [h2] at this; exact absurd this (by decide)
/-- looking at every pitch of a street: the state ahead, the best, the most -/
def qAv (α β : oT) (ps : Nat → Int32) (nS nO nH i : Nat) (r : Int32) (h : Nat) : Nat → oT × Int32 × Int32
  | 0 => (β, -1, 0)
  | k + 1 =>
    let A := qAv α β ps nS nO nH i r h k
    let τ := qPn (su (su (su (qBc α A.1 15) 6 0 i r) 7 0 i (nI k)) 8 0 i 0) ps nS nO nH h
    if ¬ A.2.1 = -1 ∧ ¬ A.2.2 < τ 10 0 i then (τ, A.2.1, A.2.2) else (τ, nI k, τ 10 0 i)
theorem oBi_a {x : Int32} (h : x ≤ 0) : (0 : Int32) = bI (oBi x 0) := by simp [oBi, bI, Int32.not_lt.mpr h]
theorem oBi_b {x : Int32} (h : 100000000 ≤ x) : (0 : Int32) = bI (oBi x 0) := by simp [oBi, bI, Int32.not_lt.mpr h]
theorem oBi_c {x : Int32} (h : ¬ x ≤ 0) (h1 : ¬ 100000000 ≤ x) : (1 : Int32) = bI (oBi x 0) := by simp [oBi, bI, Int32.not_le.mp h, Int32.not_le.mp h1]
