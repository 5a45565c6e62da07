/-! What the class's methods do to a town's memory τ, said as its code says it. Kinds: of the street s: 0 passers, 1 tastes, 2 weariness, 3 pitches, 4 coins, 5 banishments; of the organ i: 6 tunes, 7 wear, 8 complaints, 9 banished, 10 street, 11 pitch, 12 hours to go, 13 loudness, 14 coins, 15 barrel, 16 its length, 17 place; 18: streets, organs, hour. -/
/-- how many streets and organs there are -/
def oSz (τ : oT) (nS nO : Nat) : Prop := τ 18 0 0 = nI nS ∧ nS ≤ 6 ∧ τ 18 0 1 = nI nO ∧ nO ≤ 8
def oStd (τ : oT) (i : Nat) (x : Int32) : Bool := decide (τ 12 i 0 = 0) && decide (τ 10 i 0 = x)
def oSnd (τ : oT) (i : Nat) (x y : Int32) : Int32 := if oStd τ i x = true then o_max 0 (τ 13 i 0 - o_abs (y - τ 11 i 0)) else 0
def oNT (τ : oT) (i : Nat) : Int32 := if τ 17 i 0 < 0 ∨ 8 ≤ τ 17 i 0 then 0 else τ 6 i (τ 17 i 0).toNatClampNeg
def oNW (τ : oT) (i : Nat) : Int32 := if oNT τ i < 0 ∨ 6 ≤ oNT τ i then 0 else τ 7 i (oNT τ i).toNatClampNeg
def oTurn1 (τ : oT) (i : Nat) : oT := if oNT τ i < 0 ∨ 6 ≤ oNT τ i then τ else su τ 7 i (oNT τ i).toNatClampNeg (o_min 90 (τ 7 i (oNT τ i).toNatClampNeg + 1))
def oTurn (τ : oT) (i : Nat) : oT := su (oTurn1 τ i) 17 i 0 (if oTurn1 τ i 16 i 0 ≤ oTurn1 τ i 17 i 0 + 1 then 0 else oTurn1 τ i 17 i 0 + 1)
def oHl (τ : oT) (i : Nat) : Nat → oT
  | 0 => if τ 12 i 0 ≤ 0 then τ else su τ 12 i 0 (τ 12 i 0 - 1)
  | k + 1 => if oHl τ i k 9 i k ≤ 0 then oHl τ i k else su (oHl τ i k) 9 i k (oHl τ i k 9 i k - 1)
def oCA (τ : oT) (i : Nat) : Nat → Int32
  | 0 => 0
  | k + 1 => oCA τ i k + τ 8 i k
def oBS (τ : oT) (i : Nat) : Nat → Int32
  | 0 => 0
  | k + 1 => if τ 9 i k ≤ 0 then oBS τ i k else oBS τ i k + 1
def oFact (τ : oT) (i w : Nat) : Int32 := match w with
  | 0 => τ 10 i 0
  | 1 => τ 11 i 0
  | 2 => τ 12 i 0
  | 3 => τ 13 i 0
  | 4 => τ 14 i 0
  | 5 => τ 15 i 0
  | 6 => τ 17 i 0
  | 7 => oNT τ i
  | 8 => oNW τ i
  | 9 => oCA τ i 6
  | _ => oBS τ i 6
def oMove (τ : oT) (i : Nat) (a b c : Int32) : oT := su (su (su τ 10 i 0 a) 11 i 0 b) 12 i 0 c
def oTo (τ : oT) (i : Nat) (a b : Int32) : Int32 := if a = τ 10 i 0 then o_abs (b - τ 11 i 0) / 5 else 2 * o_abs (a - τ 10 i 0)
def oTire (τ : oT) (s t : Nat) (b : Bool) : oT := su τ 2 s t (if b = true then o_min 9 (τ 2 s t + 2) else o_max 0 (τ 2 s t - 1))
/-- the loudest, who that is, and the next loudness, of the first organs -/
def oWh (τ : oT) (x y : Int32) : Nat → Int32 × Int32 × Int32
  | 0 => (-1, 0, 0)
  | i + 1 => if oSnd τ i x y ≤ (oWh τ x y i).2.1 then (if oSnd τ i x y ≤ (oWh τ x y i).2.2 then oWh τ x y i else ((oWh τ x y i).1, (oWh τ x y i).2.1, oSnd τ i x y)) else (nI i, oSnd τ i x y, (oWh τ x y i).2.1)
def oHeard (τ : oT) (n : Nat) (x y : Int32) : Int32 := if (oWh τ x y n).2.2 ≤ 0 ∨ (oWh τ x y n).2.2 < (oWh τ x y n).2.1 - 1 then (oWh τ x y n).1 else -2
def oStandN (τ : oT) (x : Int32) : Nat → Int32
  | 0 => 0
  | i + 1 => if oStd τ i x = true then oStandN τ x i + 1 else oStandN τ x i
def oComplN (τ : oT) (s : Nat) : Nat → Int32
  | 0 => 0
  | i + 1 => oComplN τ s i + τ 8 i s
def oDrownN (τ : oT) (n : Nat) (x : Int32) : Nat → Int32
  | 0 => 0
  | k + 1 => if oHeard τ n x (nI k) = -2 then oDrownN τ n x k + 1 else oDrownN τ n x k
def oHeardN (τ : oT) (n : Nat) (x : Int32) : Nat → Int32
  | 0 => 0
  | k + 1 => if oHeard τ n x (nI k) < 0 then oHeardN τ n x k else oHeardN τ n x k + 1
/-- the hour of the day (Math.floorMod) -/
def o_fm (x y : Int32) : Int32 := if (o_rem x y ^^^ y) < 0 ∧ ¬ o_rem x y = 0 then o_rem x y + y else o_rem x y
def oHd (τ : oT) : Nat := (o_fm (τ 18 0 2) 24).toNatClampNeg
def oPas (τ : oT) (s : Nat) : Int32 := τ 0 s (oHd τ)
def oSFact (τ : oT) (n np s w : Nat) : Int32 := match w with
  | 0 => τ 3 s 0
  | 1 => oPas τ s
  | 2 => oStandN τ (nI s) n
  | 3 => oComplN τ s n
  | 4 => τ 4 s 0
  | 5 => τ 5 s 0
  | 6 => oDrownN τ n (nI s) np
  | _ => oHeardN τ n (nI s) np
def oStandA (τ : oT) (n : Nat) : Nat → Int32
  | 0 => 0
  | s + 1 => oStandA τ n s + oStandN τ (nI s) n
def oCoinsA (τ : oT) : Nat → Int32
  | 0 => 0
  | i + 1 => oCoinsA τ i + τ 14 i 0
def oComplA (τ : oT) (n : Nat) : Nat → Int32
  | 0 => 0
  | s + 1 => oComplA τ n s + oComplN τ s n
def oBanA (τ : oT) : Nat → Int32
  | 0 => 0
  | i + 1 => oBanA τ i + oBS τ i 6
def oCount (τ : oT) (nS nO w : Nat) : Int32 := match w with
  | 0 => τ 18 0 2
  | 1 => τ 18 0 0
  | 2 => τ 18 0 1
  | 3 => oStandA τ nO nS
  | 4 => oCoinsA τ nO
  | 5 => oComplA τ nO nS
  | _ => oBanA τ nO
/-- does an organ that stands in the street play the tune -/
def oPlN (τ : oT) (x y : Int32) : Nat → Bool
  | 0 => false
  | i + 1 => oPlN τ x y i || (oStd τ i x && decide (oNT τ i = y))
