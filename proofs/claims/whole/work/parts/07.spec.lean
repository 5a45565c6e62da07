/-! What the class's methods do to a town's memory τ, said as its code says it. Kinds: of the street s: 0 passers, 1 tastes, 2 weariness, 3 pitches, 4 coins, 5 banishments; of the organ i: 6 tunes, 7 wear, 8 complaints, 9 banished, 10 street, 11 pitch, 12 hours to go, 13 loudness, 14 coins, 15 barrel, 16 its length, 17 place; 18: streets, organs, hour. -/
/-- how many pitches a street has -/
def oNp (τ : oT) (s : Nat) : Nat := (τ 3 s 0).toNatClampNeg
/-- a town of nS streets and nO organs at the hour nH -/
def oOK (τ : oT) (nS nO nH : Nat) : Prop := τ 18 0 0 = nI nS ∧ nS ≤ 6 ∧ τ 18 0 1 = nI nO ∧ nO ≤ 8 ∧ τ 18 0 2 = nI nH ∧ nH < 1000000 ∧ ∀ s, s < 6 → τ 3 s 0 = nI (oNp τ s) ∧ oNp τ s ≤ 20
/-- streets' pitches and the town's numbers are kept -/
def oKp (σ τ : oT) : Prop := σ 3 = τ 3 ∧ σ 18 = τ 18
theorem oKp.rf (τ : oT) : oKp τ τ := ⟨rfl, rfl⟩
theorem oKp.tr {a b c : oT} (h : oKp a b) (h' : oKp b c) : oKp a c := ⟨h.1.trans h'.1, h.2.trans h'.2⟩
theorem oKp.su (τ : oT) {k : Nat} (i j : Nat) (x : Int32) (h : 3 ≠ k) (h' : 18 ≠ k) : oKp (su τ k i j x) τ := ⟨su_k τ i j x h, su_k τ i j x h'⟩
theorem oKp.ite {c : Prop} [Decidable c] {a b τ : oT} (h : oKp a τ) (h' : oKp b τ) : oKp (if c then a else b) τ := by
  by_cases hc : c
  · rw [if_pos hc]; exact h
  · rw [if_neg hc]; exact h'
theorem oOK.of {σ τ : oT} {nS nO nH : Nat} (h : oOK τ nS nO nH) (hk : oKp σ τ) : oOK σ nS nO nH := by
  unfold oOK oNp at *
  rw [hk.1, hk.2]
  exact h
def oStd (τ : oT) (i : Nat) (x : Int32) : Bool := decide (τ 12 i 0 = 0) && decide (τ 10 i 0 = x)
def oSnd (τ : oT) (i : Nat) (x y : Int32) : Int32 := if oStd τ i x = true then o_max 0 (τ 13 i 0 - o_abs (y - τ 11 i 0)) else 0
def oNT (τ : oT) (i : Nat) : Int32 := if τ 17 i 0 < 0 ∨ 8 ≤ τ 17 i 0 then 0 else τ 6 i (τ 17 i 0).toNatClampNeg
def oNW (τ : oT) (i : Nat) : Int32 := if oNT τ i < 0 ∨ 6 ≤ oNT τ i then 0 else τ 7 i (oNT τ i).toNatClampNeg
def oTurn1 (τ : oT) (i : Nat) : oT := if oNT τ i < 0 ∨ 6 ≤ oNT τ i then τ else su τ 7 i (oNT τ i).toNatClampNeg (o_min 90 (τ 7 i (oNT τ i).toNatClampNeg + 1))
def oTurn (τ : oT) (i : Nat) : oT := su (oTurn1 τ i) 17 i 0 (if oTurn1 τ i 16 i 0 ≤ oTurn1 τ i 17 i 0 + 1 then 0 else oTurn1 τ i 17 i 0 + 1)
def oHl (τ : oT) (i : Nat) : Nat → oT
  | 0 => if τ 12 i 0 ≤ 0 then τ else su τ 12 i 0 (τ 12 i 0 - 1)
  | k + 1 => if oHl τ i k 9 i k ≤ 0 then oHl τ i k else su (oHl τ i k) 9 i k (oHl τ i k 9 i k - 1)
def oCA (τ : oT) (i : Nat) : Nat → Int32
  | 0 => 0
  | k + 1 => oCA τ i k + τ 8 i k
def oBS (τ : oT) (i : Nat) : Nat → Int32
  | 0 => 0
  | k + 1 => if τ 9 i k ≤ 0 then oBS τ i k else oBS τ i k + 1
def oFact (τ : oT) (i w : Nat) : Int32 := match w with
  | 0 => τ 10 i 0
  | 1 => τ 11 i 0
  | 2 => τ 12 i 0
  | 3 => τ 13 i 0
  | 4 => τ 14 i 0
  | 5 => τ 15 i 0
  | 6 => τ 17 i 0
  | 7 => oNT τ i
  | 8 => oNW τ i
  | 9 => oCA τ i 6
  | _ => oBS τ i 6
def oMove (τ : oT) (i : Nat) (a b c : Int32) : oT := su (su (su τ 10 i 0 a) 11 i 0 b) 12 i 0 c
def oTo (τ : oT) (i : Nat) (a b : Int32) : Int32 := if a = τ 10 i 0 then o_abs (b - τ 11 i 0) / 5 else 2 * o_abs (a - τ 10 i 0)
def oTire (τ : oT) (s t : Nat) (b : Bool) : oT := su τ 2 s t (if b = true then o_min 9 (τ 2 s t + 2) else o_max 0 (τ 2 s t - 1))
/-- the loudest, who that is, and the next loudness, of the first organs -/
def oWh (τ : oT) (x y : Int32) : Nat → Int32 × Int32 × Int32
  | 0 => (-1, 0, 0)
  | i + 1 => if oSnd τ i x y ≤ (oWh τ x y i).2.1 then (if oSnd τ i x y ≤ (oWh τ x y i).2.2 then oWh τ x y i else ((oWh τ x y i).1, (oWh τ x y i).2.1, oSnd τ i x y)) else (nI i, oSnd τ i x y, (oWh τ x y i).2.1)
def oHeard (τ : oT) (n : Nat) (x y : Int32) : Int32 := if (oWh τ x y n).2.2 ≤ 0 ∨ (oWh τ x y n).2.2 < (oWh τ x y n).2.1 - 1 then (oWh τ x y n).1 else -2
def oStandN (τ : oT) (x : Int32) : Nat → Int32
  | 0 => 0
  | i + 1 => if oStd τ i x = true then oStandN τ x i + 1 else oStandN τ x i
def oComplN (τ : oT) (s : Nat) : Nat → Int32
  | 0 => 0
  | i + 1 => oComplN τ s i + τ 8 i s
def oDrownN (τ : oT) (n : Nat) (x : Int32) : Nat → Int32
  | 0 => 0
  | k + 1 => if oHeard τ n x (nI k) = -2 then oDrownN τ n x k + 1 else oDrownN τ n x k
def oHeardN (τ : oT) (n : Nat) (x : Int32) : Nat → Int32
  | 0 => 0
  | k + 1 => if oHeard τ n x (nI k) < 0 then oHeardN τ n x k else oHeardN τ n x k + 1
/-- Math.floorMod -/
def o_fm (x y : Int32) : Int32 := if (x ^^^ y) < 0 ∧ ¬ o_rem x y = 0 then o_rem x y + y else o_rem x y
theorem o_xor (a b : Nat) : nI a ^^^ nI b = nI (a ^^^ b) := by
  apply Int32.toBitVec_inj.mp
  show BitVec.ofNat 32 a ^^^ BitVec.ofNat 32 b = BitVec.ofNat 32 (a ^^^ b)
  apply BitVec.eq_of_toNat_eq
  simp only [BitVec.toNat_xor, BitVec.toNat_ofNat, Nat.xor_mod_two_pow]
theorem o_fm24 {x : Int32} {n : Nat} (h : x = nI n) (hn : n < 2 ^ 31) : o_fm x 24 = nI (n % 24) := by
  subst h
  have e : (24 : Int32) = nI 24 := by decide
  have e1 : o_rem (nI n) 24 = nI (n % 24) := by unfold o_rem; rw [e]; exact pk_rem hn (by decide) (by decide)
  have e2 : ¬ (nI n ^^^ 24) < 0 := by
    rw [e, o_xor]
    exact nI_pos (Nat.xor_lt_two_pow hn (by decide))
  unfold o_fm
  rw [if_neg (fun h => e2 h.1), e1]
def oPas (τ : oT) (nH s : Nat) : Int32 := τ 0 s (nH % 24)
def oSFact (τ : oT) (n nH s w : Nat) : Int32 := match w with
  | 0 => τ 3 s 0
  | 1 => oPas τ nH s
  | 2 => oStandN τ (nI s) n
  | 3 => oComplN τ s n
  | 4 => τ 4 s 0
  | 5 => τ 5 s 0
  | 6 => oDrownN τ n (nI s) (oNp τ s)
  | _ => oHeardN τ n (nI s) (oNp τ s)
def oStandA (τ : oT) (n : Nat) : Nat → Int32
  | 0 => 0
  | s + 1 => oStandA τ n s + oStandN τ (nI s) n
def oCoinsA (τ : oT) : Nat → Int32
  | 0 => 0
  | i + 1 => oCoinsA τ i + τ 14 i 0
def oComplA (τ : oT) (n : Nat) : Nat → Int32
  | 0 => 0
  | s + 1 => oComplA τ n s + oComplN τ s n
def oBanA (τ : oT) : Nat → Int32
  | 0 => 0
  | i + 1 => oBanA τ i + oBS τ i 6
def oCount (τ : oT) (nS nO w : Nat) : Int32 := match w with
  | 0 => τ 18 0 2
  | 1 => τ 18 0 0
  | 2 => τ 18 0 1
  | 3 => oStandA τ nO nS
  | 4 => oCoinsA τ nO
  | 5 => oComplA τ nO nS
  | _ => oBanA τ nO
/-- does an organ that stands in the street play the tune -/
def oPlN (τ : oT) (x y : Int32) : Nat → Bool
  | 0 => false
  | i + 1 => oPlN τ x y i || (oStd τ i x && decide (oNT τ i = y))
theorem oPlN_mono (τ : oT) (x y : Int32) {k n : Nat} (h : oPlN τ x y k = true) (hkn : k ≤ n) : oPlN τ x y n = true := by
  induction n with
  | zero => rw [show k = 0 by omega] at h; exact h
  | succ n ih =>
    by_cases e : k = n + 1
    · subst e; exact h
    · simp [oPlN, ih (by omega)]
/-- an index that was looked at, the other way -/
theorem o_vin2 {x y : Int32} {n : Nat} (h0 : ¬ x < 0) (h1 : x < y) (hy : y = nI n) (hn : n < 2 ^ 31) : vp_in x n := by
  subst hy
  rcases pk_ix x hn with h | h | ⟨j, hj, rfl⟩
  · exact absurd h h0
  · exact absurd h (Int32.not_le.mpr h1)
  · exact vp_in_nI hj hn
/-- who is heard is an organ, where it isn't below 0 -/
theorem oWh_in (τ : oT) (x y : Int32) : ∀ n, n < 2 ^ 31 → (oWh τ x y n).1 = -1 ∨ ∃ j, j < n ∧ (oWh τ x y n).1 = nI j
  | 0, _ => Or.inl rfl
  | n + 1, hn => by
    have ih := oWh_in τ x y n (by omega)
    have up : (oWh τ x y n).1 = -1 ∨ ∃ j, j < n + 1 ∧ (oWh τ x y n).1 = nI j := ih.imp id (fun ⟨j, hj, e⟩ => ⟨j, by omega, e⟩)
    simp only [oWh]
    split
    · split
      · exact up
      · exact up
    · exact Or.inr ⟨n, by omega, rfl⟩
theorem oHeard_in {τ : oT} {n : Nat} {x y : Int32} (hn : n < 2 ^ 31) (h : ¬ oHeard τ n x y < 0) : oHeard τ n x y = nI (oHeard τ n x y).toNatClampNeg ∧ (oHeard τ n x y).toNatClampNeg < n := by
  by_cases hc : (oWh τ x y n).2.2 ≤ 0 ∨ (oWh τ x y n).2.2 < (oWh τ x y n).2.1 - 1
  · have e : oHeard τ n x y = (oWh τ x y n).1 := if_pos hc
    rw [e] at h ⊢
    rcases oWh_in τ x y n hn with h1 | ⟨j, hj, h1⟩
    · rw [h1] at h; exact absurd (by decide) h
    · rw [h1, nI_clamp (by omega)]; exact ⟨rfl, hj⟩
  · have e : oHeard τ n x y = -2 := if_neg hc
    rw [e] at h; exact absurd (by decide) h
/-- what an organ gets at a pitch where it is heard -/
def oCoin (τ : oT) (i s nH : Nat) : Int32 := if oNT τ i < 0 then 0 else if oNT τ i < 6 then oPas τ nH s * o_max 0 (τ 1 s (oNT τ i).toNatClampNeg - τ 2 s (oNT τ i).toNatClampNeg - τ 7 i (oNT τ i).toNatClampNeg / 10) / 10 else 0
def oLd (τ : oT) (x y : Int32) : Nat → Int32
  | 0 => 0
  | i + 1 => o_max (oLd τ x y i) (oSnd τ i x y)
def oCp (τ : oT) (s : Nat) (y L : Int32) : Nat → oT
  | 0 => τ
  | i + 1 => if oSnd (oCp τ s y L i) i (nI s) y ≤ 0 then oCp τ s y L i else if oSnd (oCp τ s y L i) i (nI s) y < L - 1 then oCp τ s y L i else su (oCp τ s y L i) 8 i s (oCp τ s y L i 8 i s + 1)
theorem oCp_kp (τ : oT) (s : Nat) (y L : Int32) : ∀ n, oKp (oCp τ s y L n) τ
  | 0 => oKp.rf τ
  | n + 1 => oKp.ite (oCp_kp τ s y L n) (oKp.ite (oCp_kp τ s y L n) ((oKp.su _ _ _ _ (by decide) (by decide)).tr (oCp_kp τ s y L n)))
def oComplain (τ : oT) (n s : Nat) (y : Int32) : oT := oCp τ s y (oLd τ (nI s) y n) n
/-- the first pitches of a street have given their coins -/
def oGv (τ : oT) (n s nH : Nat) : Nat → oT × Int32
  | 0 => (τ, 0)
  | k + 1 => if oHeard (oGv τ n s nH k).1 n (nI s) (nI k) = -2 then (oComplain (oGv τ n s nH k).1 n s (nI k), (oGv τ n s nH k).2) else if oHeard (oGv τ n s nH k).1 n (nI s) (nI k) < 0 then oGv τ n s nH k else (su (oGv τ n s nH k).1 14 (oHeard (oGv τ n s nH k).1 n (nI s) (nI k)).toNatClampNeg 0 ((oGv τ n s nH k).1 14 (oHeard (oGv τ n s nH k).1 n (nI s) (nI k)).toNatClampNeg 0 + oCoin (oGv τ n s nH k).1 (oHeard (oGv τ n s nH k).1 n (nI s) (nI k)).toNatClampNeg s nH), (oGv τ n s nH k).2 + oCoin (oGv τ n s nH k).1 (oHeard (oGv τ n s nH k).1 n (nI s) (nI k)).toNatClampNeg s nH)
theorem oGv_kp (τ : oT) (n s nH : Nat) : ∀ k, oKp (oGv τ n s nH k).1 τ
  | 0 => oKp.rf τ
  | k + 1 => by
    have ih := oGv_kp τ n s nH k
    simp only [oGv]
    split
    · exact (oCp_kp _ _ _ _ _).tr ih
    · split
      · exact ih
      · exact (oKp.su _ _ _ _ (by decide) (by decide)).tr ih
def oGive (τ : oT) (n s nH : Nat) : oT × Int32 := if oStandN τ (nI s) n = 0 then (τ, 0) else (su (oGv τ n s nH (oNp τ s)).1 4 s 0 ((oGv τ n s nH (oNp τ s)).1 4 s 0 + (oGv τ n s nH (oNp τ s)).2), (oGv τ n s nH (oNp τ s)).2)
theorem oGive_kp (τ : oT) (n s nH : Nat) : oKp (oGive τ n s nH).1 τ := by
  unfold oGive
  split
  · exact oKp.rf τ
  · exact (oKp.su _ _ _ _ (by decide) (by decide)).tr (oGv_kp τ n s nH _)
def oTe (τ : oT) (n s : Nat) : Nat → oT
  | 0 => τ
  | u + 1 => oTire (oTe τ n s u) s u (oPlN (oTe τ n s u) (nI s) (nI u) n)
theorem oTe_kp (τ : oT) (n s : Nat) : ∀ u, oKp (oTe τ n s u) τ
  | 0 => oKp.rf τ
  | u + 1 => (oKp.su _ _ _ _ (by decide) (by decide)).tr (oTe_kp τ n s u)
theorem oTurn_kp (τ : oT) (i : Nat) : oKp (oTurn τ i) τ := (oKp.su _ _ _ _ (by decide) (by decide)).tr (oKp.ite (oKp.rf τ) (oKp.su _ _ _ _ (by decide) (by decide)))
def oTb (τ : oT) : Nat → oT
  | 0 => τ
  | i + 1 => if oTb τ i 12 i 0 = 0 then oTurn (oTb τ i) i else oTb τ i
theorem oTb_kp (τ : oT) : ∀ n, oKp (oTb τ n) τ
  | 0 => oKp.rf τ
  | n + 1 => oKp.ite ((oTurn_kp _ _).tr (oTb_kp τ n)) (oTb_kp τ n)
/-- the organ with the most complaints in the street, of the organs 0 to n -/
def oWo (τ : oT) (s : Nat) : Nat → Nat
  | 0 => 0
  | i + 1 => if τ 8 (i + 1) s ≤ τ 8 (oWo τ s i) s then oWo τ s i else i + 1
theorem oWo_le (τ : oT) (s : Nat) : ∀ n, oWo τ s n ≤ n
  | 0 => Nat.le_refl 0
  | n + 1 => by
    have ih := oWo_le τ s n
    simp only [oWo]
    split <;> omega
/-- where an organ goes that is sent away from s: looked for from the j-th street behind it on -/
def oRf (τ : oT) (i s nS : Nat) : Nat → Nat → Nat
  | _, 0 => s
  | j, d + 1 => if τ 9 i ((s + j) % nS) = 0 then (s + j) % nS else oRf τ i s nS (j + 1) d
def oBn1 (τ : oT) (i s : Nat) : oT := su (su τ 9 i s 25) 5 s 0 (su τ 9 i s 25 5 s 0 + 1)
theorem oBn1_kp (τ : oT) (i s : Nat) : oKp (oBn1 τ i s) τ := (oKp.su _ _ _ _ (by decide) (by decide)).tr (oKp.su _ _ _ _ (by decide) (by decide))
def oBanish (τ : oT) (nS i s : Nat) : oT := if oStd (oBn1 τ i s) i (nI s) = true then oMove (oBn1 τ i s) i (nI (oRf (oBn1 τ i s) i s nS 1 (nS - 1))) 0 3 else oBn1 τ i s
theorem oMove_kp (τ : oT) (i : Nat) (a b c : Int32) : oKp (oMove τ i a b c) τ := (oKp.su _ _ _ _ (by decide) (by decide)).tr ((oKp.su _ _ _ _ (by decide) (by decide)).tr (oKp.su _ _ _ _ (by decide) (by decide)))
theorem oBanish_kp (τ : oT) (nS i s : Nat) : oKp (oBanish τ nS i s) τ := oKp.ite ((oMove_kp _ _ _ _ _).tr (oBn1_kp τ i s)) (oBn1_kp τ i s)
def oZc (τ : oT) (s : Nat) : Nat → oT
  | 0 => τ
  | i + 1 => su (oZc τ s i) 8 i s 0
theorem oZc_kp (τ : oT) (s : Nat) : ∀ n, oKp (oZc τ s n) τ
  | 0 => oKp.rf τ
  | n + 1 => (oKp.su _ _ _ _ (by decide) (by decide)).tr (oZc_kp τ s n)
def oConst (τ : oT) (nS nO s : Nat) : oT := if 10 ≤ oComplN τ s nO then oZc (oBanish τ nS (oWo τ s (nO - 1)) s) s nO else τ
theorem oConst_kp (τ : oT) (nS nO s : Nat) : oKp (oConst τ nS nO s) τ := oKp.ite ((oZc_kp _ _ _).tr (oBanish_kp _ _ _ _)) (oKp.rf τ)
theorem oHl_kp (τ : oT) (i : Nat) : ∀ k, oKp (oHl τ i k) τ
  | 0 => oKp.ite (oKp.rf τ) (oKp.su _ _ _ _ (by decide) (by decide))
  | k + 1 => oKp.ite (oHl_kp τ i k) ((oKp.su _ _ _ _ (by decide) (by decide)).tr (oHl_kp τ i k))
/-- an hour, step by step: coins, ears, barrels, constables, ways -/
def oP1 (τ : oT) (nO nH : Nat) : Nat → oT × Int32
  | 0 => (τ, 0)
  | s + 1 => ((oGive (oP1 τ nO nH s).1 nO s nH).1, (oP1 τ nO nH s).2 + (oGive (oP1 τ nO nH s).1 nO s nH).2)
def oP2 (τ : oT) (nO : Nat) : Nat → oT
  | 0 => τ
  | s + 1 => oTe (oP2 τ nO s) nO s 6
def oP4 (τ : oT) (nS nO : Nat) : Nat → oT
  | 0 => τ
  | s + 1 => oConst (oP4 τ nS nO s) nS nO s
def oP5 (τ : oT) : Nat → oT
  | 0 => τ
  | i + 1 => oHl (oP5 τ i) i 6
theorem oP1_kp (τ : oT) (nO nH : Nat) : ∀ s, oKp (oP1 τ nO nH s).1 τ
  | 0 => oKp.rf τ
  | s + 1 => (oGive_kp _ _ _ _).tr (oP1_kp τ nO nH s)
theorem oP2_kp (τ : oT) (nO : Nat) : ∀ s, oKp (oP2 τ nO s) τ
  | 0 => oKp.rf τ
  | s + 1 => (oTe_kp _ _ _ _).tr (oP2_kp τ nO s)
theorem oP4_kp (τ : oT) (nS nO : Nat) : ∀ s, oKp (oP4 τ nS nO s) τ
  | 0 => oKp.rf τ
  | s + 1 => (oConst_kp _ _ _ _).tr (oP4_kp τ nS nO s)
theorem oP5_kp (τ : oT) : ∀ n, oKp (oP5 τ n) τ
  | 0 => oKp.rf τ
  | n + 1 => (oHl_kp _ _ _).tr (oP5_kp τ n)
def oH1 (τ : oT) (nS nO nH : Nat) : oT := (oP1 τ nO nH nS).1
def oH2 (τ : oT) (nS nO nH : Nat) : oT := oP2 (oH1 τ nS nO nH) nO nS
def oH3 (τ : oT) (nS nO nH : Nat) : oT := oTb (oH2 τ nS nO nH) nO
def oH4 (τ : oT) (nS nO nH : Nat) : oT := oP4 (oH3 τ nS nO nH) nS nO nS
def oH5 (τ : oT) (nS nO nH : Nat) : oT := oP5 (oH4 τ nS nO nH) nO
theorem oH1_kp (τ : oT) (nS nO nH : Nat) : oKp (oH1 τ nS nO nH) τ := oP1_kp _ _ _ _
theorem oH2_kp (τ : oT) (nS nO nH : Nat) : oKp (oH2 τ nS nO nH) τ := (oP2_kp _ _ _).tr (oH1_kp _ _ _ _)
theorem oH3_kp (τ : oT) (nS nO nH : Nat) : oKp (oH3 τ nS nO nH) τ := (oTb_kp _ _).tr (oH2_kp _ _ _ _)
theorem oH4_kp (τ : oT) (nS nO nH : Nat) : oKp (oH4 τ nS nO nH) τ := (oP4_kp _ _ _ _).tr (oH3_kp _ _ _ _)
theorem oH5_kp (τ : oT) (nS nO nH : Nat) : oKp (oH5 τ nS nO nH) τ := (oP5_kp _ _).tr (oH4_kp _ _ _ _)
def oHour (τ : oT) (nS nO nH : Nat) : oT := su (oH5 τ nS nO nH) 18 0 2 (oH5 τ nS nO nH 18 0 2 + 1)
def oHourN (τ : oT) (nS nO nH : Nat) : Int32 := (oP1 τ nO nH nS).2
theorem oHour_ok {τ : oT} {nS nO nH : Nat} (h : oOK τ nS nO nH) (hn : nH + 1 < 1000000) : oOK (oHour τ nS nO nH) nS nO (nH + 1) := by
  have h5 := h.of (oH5_kp τ nS nO nH)
  obtain ⟨a, b, c, d, f, g, k⟩ := h5
  refine ⟨?_, b, ?_, d, ?_, hn, ?_⟩
  · rw [← a]; simp [oHour, su]
  · rw [← c]; simp [oHour, su]
  · show su (oH5 τ nS nO nH) 18 0 2 (oH5 τ nS nO nH 18 0 2 + 1) 18 0 2 = nI (nH + 1)
    rw [su_s, f, nI_1]
  · intro s hs
    have e : (oHour τ nS nO nH) 3 = (oH5 τ nS nO nH) 3 := su_k _ _ _ _ (by decide)
    unfold oNp at *
    rw [e]
    exact k s hs
/-- some hours -/
def oPn (τ : oT) (nS nO nH : Nat) : Nat → oT
  | 0 => τ
  | k + 1 => oHour (oPn τ nS nO nH k) nS nO (nH + k)
theorem oPn_ok {τ : oT} {nS nO nH : Nat} (h : oOK τ nS nO nH) : ∀ k, nH + k < 1000000 → oOK (oPn τ nS nO nH k) nS nO (nH + k)
  | 0, _ => h
  | k + 1, hk => oHour_ok (oPn_ok h k (by omega)) (by omega)
theorem o_next0 {r k n : Nat} (hn : 0 < n) (h : n ≤ (r + k) % n + 1) : (0 : Int32) = nI ((r + (k + 1)) % n) := by
  have h1 : (r + k) % n < n := Nat.mod_lt _ hn
  have e : (r + (k + 1)) % n = 0 := by
    rw [← Nat.add_assoc, Nat.add_mod, show (r + k) % n = n - 1 by omega]
    by_cases h2 : n = 1
    · subst h2; rfl
    · rw [Nat.mod_eq_of_lt (show 1 < n by omega), show n - 1 + 1 = n by omega, Nat.mod_self]
  rw [e]; decide
theorem o_next1 {r k n : Nat} (h : ¬ n ≤ (r + k) % n + 1) : nI ((r + k) % n) + 1 = nI ((r + (k + 1)) % n) := by
  rw [nI_1]
  congr 1
  rw [← Nat.add_assoc, Nat.add_mod (r + k) 1]
  by_cases h2 : n = 1
  · subst h2; omega
  · by_cases h3 : n = 0
    · subst h3; simp
    · rw [Nat.mod_eq_of_lt (show 1 < n by omega), Nat.mod_eq_of_lt (show (r + k) % n + 1 < n by omega)]
