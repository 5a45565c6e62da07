/-! longs -/
section OLONG
variable {p : Program} {l : Launch} {e : Env} {R : Room} {s : State} {m : MethodId} {args : Array Value} {below : List Frame} {meth : Method} {c : Code} {H : Heap} {locs : List Loc} {cells slots : Nat} {Q : State → Prop}
  {cc : ByteArray} {pc : Nat} {ls : Array Slot} {rest : List Value}
theorem o_lcmp_gt (hx : p.tables.exec = Jvm.exec) (hb : c.code = cc) {x y : Int64} (hdg : decode cc pc = .ok (.lcmp, 1)) (h : x > y)
    (k : W p l e R s m args below meth c H locs cells slots Q (F0 m (pc + 1) ls (.int 1 :: rest))) : W p l e R s m args below meth c H locs cells slots Q (F0 m pc ls (.long y :: .long x :: rest)) := by
  intro T hT X
  obtain ⟨t, a, b⟩ := k T hT X
  refine ⟨t, ?_, b⟩
  jvm_step X.here [X.here.top, hx, hb, hdg, h]
  exact a
theorem o_lcmp_eq (hx : p.tables.exec = Jvm.exec) (hb : c.code = cc) {x y : Int64} (hdg : decode cc pc = .ok (.lcmp, 1)) (he : x = y)
    (k : W p l e R s m args below meth c H locs cells slots Q (F0 m (pc + 1) ls (.int 0 :: rest))) : W p l e R s m args below meth c H locs cells slots Q (F0 m pc ls (.long y :: .long x :: rest)) := by
  subst he
  intro T hT X
  obtain ⟨t, a, b⟩ := k T hT X
  refine ⟨t, ?_, b⟩
  have h : ¬ x > x := Int64.lt_irrefl
  jvm_step X.here [X.here.top, hx, hb, hdg, h]
  exact a
end OLONG
theorem lN_div {a d : Nat} (ha : a < 2 ^ 31) (hd : d < 2 ^ 31) : lN a / lN d = lN (a / d) := by
  have hq : a / d < 2 ^ 31 := Nat.lt_of_le_of_lt (Nat.div_le_self _ _) ha
  refine Int64.toInt_inj.mp ?_
  rw [Int64.toInt_div, lN_toInt ha, lN_toInt hd, lN_toInt hq, Int.tdiv_eq_ediv_of_nonneg (Int.natCast_nonneg a), ← Int.natCast_ediv]
  generalize a / d = q at hq ⊢
  rw [Int.bmod_eq_of_le (by omega) (by omega)]
theorem lN_rem {a : Nat} (ha : a < 2 ^ 31) : lN a - lN a / (10 : Int64) * (10 : Int64) = lN (a % 10) := by
  have h10 : (10 : Int64) = lN 10 := by decide
  rw [h10, lN_div ha (by decide), lN_mul, lN_sub (by omega)]
  exact congrArg lN (by omega)
/-- the powers that a number is written by -/
def kPw (N j : Nat) : Nat := if j ≤ N then 10 ^ (N - j) else 0
theorem kPw_lt {N j : Nat} (h : N ≤ 9) : kPw N j < 2 ^ 31 := by
  unfold kPw
  split
  · exact Nat.lt_of_le_of_lt (Nat.pow_le_pow_right (by decide) (show N - j ≤ 9 by omega)) (by decide)
  · decide
theorem kPw_pos {N j : Nat} (hj : j ≤ N) : 0 < kPw N j := by
  unfold kPw
  rw [if_pos hj]
  exact Nat.pow_pos (by decide)
theorem kPw_gt {N j : Nat} (hj : j ≤ N) (h : N ≤ 9) : lN (kPw N j) > (0 : Int64) := (lN_lt (a := 0) (by decide) (kPw_lt h)).mpr (kPw_pos hj)
theorem kPw_ne {N j : Nat} (hj : j ≤ N) (h : N ≤ 9) : ¬ lN (kPw N j) = 0 := fun e => by
  have := (lN_eq (b := 0) (kPw_lt h) (by decide)).mp e
  have := kPw_pos hj
  omega
theorem kPw_s {N j : Nat} (hj : j ≤ N) (h : N ≤ 9) : lN (kPw N j) / (10 : Int64) = lN (kPw N (j + 1)) := by
  have h10 : (10 : Int64) = lN 10 := by decide
  rw [h10, lN_div (kPw_lt h) (by decide)]
  congr 1
  unfold kPw
  rw [if_pos hj]
  by_cases h1 : j + 1 ≤ N
  · rw [if_pos h1, show N - j = N - (j + 1) + 1 by omega, Nat.pow_succ, Nat.mul_div_cancel _ (by decide)]
  · rw [if_neg h1, show N - j = 0 by omega]
theorem kPw_b {v q : Nat} (hv : v < 2 ^ 31) (hq : q < 2 ^ 31) : ((48 : Int64) + ((nI v).toInt64 / lN q - (nI v).toInt64 / lN q / (10 : Int64) * (10 : Int64))).toInt32 = nI (48 + v / q % 10) := by
  rw [nI_l hv, lN_div hv hq, lN_rem (Nat.lt_of_le_of_lt (Nat.div_le_self _ _) hv), show (48 : Int64) = lN 48 by decide, lN_add, lN_i]
