/-! rows of towns and states, over the whole worlds -/
theorem tw_self (G : oG) (Z : oZ) (t : Nat) : tw G Z t (Z t) = cw G Z := by unfold tw; rw [setT_self]
theorem cx_C (G : oG) (Z : oZ) : (cw G Z)[0]? = some (G.2.1 0, .inr (6, [.ref (ta G 0 0), .ref (ta G 1 0), .ref (G.2.1 135)])) := wl_at (by decide) rfl
theorem cx_P (G : oG) (Z : oZ) : (cw G Z)[135]? = some (G.2.1 135, .inr (3, [.ref (G.2.1 136), .int (Z 2 0 0 0)])) := wl_at (by decide) rfl
theorem cx_PB (G : oG) (Z : oZ) : (cw G Z)[136]? = some (G.2.1 136, .inl (G.2.2 3, 320, .inl (Z 2 1 0))) := wl_at (by decide) rfl
theorem cw_setP {G : oG} {Z : oZ} {a : Nat} {τ' : oT} {e : va_E} (ha : a = 135 ∨ a = 136) (h0 : (if 135 = a then e else .inr (3, [.ref (G.2.1 136), .int (Z 2 0 0 0)])) = .inr (3, [.ref (G.2.1 136), .int (τ' 0 0 0)])) (h1 : (if 136 = a then e else .inl (G.2.2 3, 320, .inl (Z 2 1 0))) = .inl (G.2.2 3, 320, .inl (τ' 1 0))) : (cw G Z).set a (G.2.1 a, e) = cw G (setT Z 2 τ') := by
  refine wl_set (cc_cases ?_ (fun t k ht hk => ?_) ?_ ?_)
  · rw [if_neg (by omega)]; rfl
  · rw [if_neg (by omega), cc_T _ _ ht hk, cc_T _ _ ht hk, setT_n _ _ (show t ≠ 2 by omega)]
  · exact h0.symm
  · exact h1.symm
theorem cu_P (G : oG) (Z : oZ) (x : Int32) : (cw G Z).set 135 (G.2.1 135, .inr (3, [.ref (G.2.1 136), .int x])) = cw G (setT Z 2 (su (Z 2) 0 0 0 x)) := cw_setP (Or.inl rfl) (by simp [su]) (by simp [su])
theorem cu_PB (G : oG) (Z : oZ) (j : Nat) (x : Int32) : (cw G Z).set 136 (G.2.1 136, .inl (G.2.2 3, 320, .inl (upd (Z 2 1 0) j x))) = cw G (setT Z 2 (su (Z 2) 1 0 j x)) := cw_setP (Or.inr rfl) (by simp [su]) (by simp [su_row])
theorem cx_T (G : oG) (Z : oZ) {t : Nat} (ht : t < 2) : (cw G Z)[1 + 67 * t + (0)]? = some (ta G t (0), .inr (5, [.ref (ta G t (1)), .ref (ta G t (2)), .int (Z t 18 0 0), .int (Z t 18 0 1), .int (Z t 18 0 2)])) := by
  have h9 := tw_T G Z ht (Z t) 
  rw [tw_self] at h9
  exact h9
theorem cx_SA (G : oG) (Z : oZ) {t : Nat} (ht : t < 2) : (cw G Z)[1 + 67 * t + (1)]? = some (ta G t (1), .inl (G.2.2 1, 6, .inr (.inr (.inr (.inr (fun j => some (ta G t (3 + 4 * j)))))))) := by
  have h9 := tw_SA G Z ht (Z t) 
  rw [tw_self] at h9
  exact h9
theorem cx_OA (G : oG) (Z : oZ) {t : Nat} (ht : t < 2) : (cw G Z)[1 + 67 * t + (2)]? = some (ta G t (2), .inl (G.2.2 2, 8, .inr (.inr (.inr (.inr (fun j => some (ta G t (27 + 5 * j)))))))) := by
  have h9 := tw_OA G Z ht (Z t) 
  rw [tw_self] at h9
  exact h9
theorem cx_S (G : oG) (Z : oZ) {t : Nat} (ht : t < 2) {s : Nat} (h : s < 6) : (cw G Z)[1 + 67 * t + (3 + 4 * s)]? = some (ta G t (3 + 4 * s), .inr (4, [.ref (ta G t (4 + 4 * s)), .ref (ta G t (5 + 4 * s)), .ref (ta G t (6 + 4 * s)), .int (Z t 3 s 0), .int (Z t 4 s 0), .int (Z t 5 s 0)])) := by
  have h9 := tw_S G Z ht (Z t) h
  rw [tw_self] at h9
  exact h9
theorem cx_Sp (G : oG) (Z : oZ) {t : Nat} (ht : t < 2) {s : Nat} (h : s < 6) : (cw G Z)[1 + 67 * t + (4 + 4 * s)]? = some (ta G t (4 + 4 * s), .inl (G.2.2 0, 24, .inl (Z t 0 s))) := by
  have h9 := tw_Sp G Z ht (Z t) h
  rw [tw_self] at h9
  exact h9
theorem cx_St (G : oG) (Z : oZ) {t : Nat} (ht : t < 2) {s : Nat} (h : s < 6) : (cw G Z)[1 + 67 * t + (5 + 4 * s)]? = some (ta G t (5 + 4 * s), .inl (G.2.2 0, 6, .inl (Z t 1 s))) := by
  have h9 := tw_St G Z ht (Z t) h
  rw [tw_self] at h9
  exact h9
theorem cx_Sw (G : oG) (Z : oZ) {t : Nat} (ht : t < 2) {s : Nat} (h : s < 6) : (cw G Z)[1 + 67 * t + (6 + 4 * s)]? = some (ta G t (6 + 4 * s), .inl (G.2.2 0, 6, .inl (Z t 2 s))) := by
  have h9 := tw_Sw G Z ht (Z t) h
  rw [tw_self] at h9
  exact h9
theorem cx_O (G : oG) (Z : oZ) {t : Nat} (ht : t < 2) {i : Nat} (h : i < 8) : (cw G Z)[1 + 67 * t + (27 + 5 * i)]? = some (ta G t (27 + 5 * i), .inr (2, [.ref (ta G t (28 + 5 * i)), .ref (ta G t (29 + 5 * i)), .ref (ta G t (30 + 5 * i)), .ref (ta G t (31 + 5 * i)), .int (Z t 10 i 0), .int (Z t 11 i 0), .int (Z t 12 i 0), .int (Z t 13 i 0), .int (Z t 14 i 0), .int (Z t 15 i 0), .int (Z t 16 i 0), .int (Z t 17 i 0)])) := by
  have h9 := tw_O G Z ht (Z t) h
  rw [tw_self] at h9
  exact h9
theorem cx_Ot (G : oG) (Z : oZ) {t : Nat} (ht : t < 2) {i : Nat} (h : i < 8) : (cw G Z)[1 + 67 * t + (28 + 5 * i)]? = some (ta G t (28 + 5 * i), .inl (G.2.2 0, 8, .inl (Z t 6 i))) := by
  have h9 := tw_Ot G Z ht (Z t) h
  rw [tw_self] at h9
  exact h9
theorem cx_Ow (G : oG) (Z : oZ) {t : Nat} (ht : t < 2) {i : Nat} (h : i < 8) : (cw G Z)[1 + 67 * t + (29 + 5 * i)]? = some (ta G t (29 + 5 * i), .inl (G.2.2 0, 6, .inl (Z t 7 i))) := by
  have h9 := tw_Ow G Z ht (Z t) h
  rw [tw_self] at h9
  exact h9
theorem cx_Oc (G : oG) (Z : oZ) {t : Nat} (ht : t < 2) {i : Nat} (h : i < 8) : (cw G Z)[1 + 67 * t + (30 + 5 * i)]? = some (ta G t (30 + 5 * i), .inl (G.2.2 0, 6, .inl (Z t 8 i))) := by
  have h9 := tw_Oc G Z ht (Z t) h
  rw [tw_self] at h9
  exact h9
theorem cx_Ob (G : oG) (Z : oZ) {t : Nat} (ht : t < 2) {i : Nat} (h : i < 8) : (cw G Z)[1 + 67 * t + (31 + 5 * i)]? = some (ta G t (31 + 5 * i), .inl (G.2.2 0, 6, .inl (Z t 9 i))) := by
  have h9 := tw_Ob G Z ht (Z t) h
  rw [tw_self] at h9
  exact h9
theorem cu_S3 (G : oG) (Z : oZ) {t : Nat} (ht : t < 2) {s : Nat} (h : s < 6) (x : Int32) : (cw G Z).set (1 + 67 * t + (3 + 4 * s)) (ta G t (3 + 4 * s), .inr (4, [.ref (ta G t (4 + 4 * s)), .ref (ta G t (5 + 4 * s)), .ref (ta G t (6 + 4 * s)), .int x, .int (Z t 4 s 0), .int (Z t 5 s 0)])) = cw G (setT Z t (su (Z t) 3 s 0 x)) := by
  have h9 := tw_uS3 G Z ht (Z t) h x
  rw [tw_self] at h9
  exact h9
theorem cu_S4 (G : oG) (Z : oZ) {t : Nat} (ht : t < 2) {s : Nat} (h : s < 6) (x : Int32) : (cw G Z).set (1 + 67 * t + (3 + 4 * s)) (ta G t (3 + 4 * s), .inr (4, [.ref (ta G t (4 + 4 * s)), .ref (ta G t (5 + 4 * s)), .ref (ta G t (6 + 4 * s)), .int (Z t 3 s 0), .int x, .int (Z t 5 s 0)])) = cw G (setT Z t (su (Z t) 4 s 0 x)) := by
  have h9 := tw_uS4 G Z ht (Z t) h x
  rw [tw_self] at h9
  exact h9
theorem cu_S5 (G : oG) (Z : oZ) {t : Nat} (ht : t < 2) {s : Nat} (h : s < 6) (x : Int32) : (cw G Z).set (1 + 67 * t + (3 + 4 * s)) (ta G t (3 + 4 * s), .inr (4, [.ref (ta G t (4 + 4 * s)), .ref (ta G t (5 + 4 * s)), .ref (ta G t (6 + 4 * s)), .int (Z t 3 s 0), .int (Z t 4 s 0), .int x])) = cw G (setT Z t (su (Z t) 5 s 0 x)) := by
  have h9 := tw_uS5 G Z ht (Z t) h x
  rw [tw_self] at h9
  exact h9
theorem cu_S0 (G : oG) (Z : oZ) {t : Nat} (ht : t < 2) {s : Nat} (h : s < 6) (j : Nat) (x : Int32) : (cw G Z).set (1 + 67 * t + (4 + 4 * s)) (ta G t (4 + 4 * s), .inl (G.2.2 0, 24, .inl (upd (Z t 0 s) j x))) = cw G (setT Z t (su (Z t) 0 s j x)) := by
  have h9 := tw_uS0 G Z ht (Z t) h j x
  rw [tw_self] at h9
  exact h9
theorem cu_S1 (G : oG) (Z : oZ) {t : Nat} (ht : t < 2) {s : Nat} (h : s < 6) (j : Nat) (x : Int32) : (cw G Z).set (1 + 67 * t + (5 + 4 * s)) (ta G t (5 + 4 * s), .inl (G.2.2 0, 6, .inl (upd (Z t 1 s) j x))) = cw G (setT Z t (su (Z t) 1 s j x)) := by
  have h9 := tw_uS1 G Z ht (Z t) h j x
  rw [tw_self] at h9
  exact h9
theorem cu_S2 (G : oG) (Z : oZ) {t : Nat} (ht : t < 2) {s : Nat} (h : s < 6) (j : Nat) (x : Int32) : (cw G Z).set (1 + 67 * t + (6 + 4 * s)) (ta G t (6 + 4 * s), .inl (G.2.2 0, 6, .inl (upd (Z t 2 s) j x))) = cw G (setT Z t (su (Z t) 2 s j x)) := by
  have h9 := tw_uS2 G Z ht (Z t) h j x
  rw [tw_self] at h9
  exact h9
theorem cu_O10 (G : oG) (Z : oZ) {t : Nat} (ht : t < 2) {i : Nat} (h : i < 8) (x : Int32) : (cw G Z).set (1 + 67 * t + (27 + 5 * i)) (ta G t (27 + 5 * i), .inr (2, [.ref (ta G t (28 + 5 * i)), .ref (ta G t (29 + 5 * i)), .ref (ta G t (30 + 5 * i)), .ref (ta G t (31 + 5 * i)), .int x, .int (Z t 11 i 0), .int (Z t 12 i 0), .int (Z t 13 i 0), .int (Z t 14 i 0), .int (Z t 15 i 0), .int (Z t 16 i 0), .int (Z t 17 i 0)])) = cw G (setT Z t (su (Z t) 10 i 0 x)) := by
  have h9 := tw_uO10 G Z ht (Z t) h x
  rw [tw_self] at h9
  exact h9
theorem cu_O11 (G : oG) (Z : oZ) {t : Nat} (ht : t < 2) {i : Nat} (h : i < 8) (x : Int32) : (cw G Z).set (1 + 67 * t + (27 + 5 * i)) (ta G t (27 + 5 * i), .inr (2, [.ref (ta G t (28 + 5 * i)), .ref (ta G t (29 + 5 * i)), .ref (ta G t (30 + 5 * i)), .ref (ta G t (31 + 5 * i)), .int (Z t 10 i 0), .int x, .int (Z t 12 i 0), .int (Z t 13 i 0), .int (Z t 14 i 0), .int (Z t 15 i 0), .int (Z t 16 i 0), .int (Z t 17 i 0)])) = cw G (setT Z t (su (Z t) 11 i 0 x)) := by
  have h9 := tw_uO11 G Z ht (Z t) h x
  rw [tw_self] at h9
  exact h9
theorem cu_O12 (G : oG) (Z : oZ) {t : Nat} (ht : t < 2) {i : Nat} (h : i < 8) (x : Int32) : (cw G Z).set (1 + 67 * t + (27 + 5 * i)) (ta G t (27 + 5 * i), .inr (2, [.ref (ta G t (28 + 5 * i)), .ref (ta G t (29 + 5 * i)), .ref (ta G t (30 + 5 * i)), .ref (ta G t (31 + 5 * i)), .int (Z t 10 i 0), .int (Z t 11 i 0), .int x, .int (Z t 13 i 0), .int (Z t 14 i 0), .int (Z t 15 i 0), .int (Z t 16 i 0), .int (Z t 17 i 0)])) = cw G (setT Z t (su (Z t) 12 i 0 x)) := by
  have h9 := tw_uO12 G Z ht (Z t) h x
  rw [tw_self] at h9
  exact h9
theorem cu_O13 (G : oG) (Z : oZ) {t : Nat} (ht : t < 2) {i : Nat} (h : i < 8) (x : Int32) : (cw G Z).set (1 + 67 * t + (27 + 5 * i)) (ta G t (27 + 5 * i), .inr (2, [.ref (ta G t (28 + 5 * i)), .ref (ta G t (29 + 5 * i)), .ref (ta G t (30 + 5 * i)), .ref (ta G t (31 + 5 * i)), .int (Z t 10 i 0), .int (Z t 11 i 0), .int (Z t 12 i 0), .int x, .int (Z t 14 i 0), .int (Z t 15 i 0), .int (Z t 16 i 0), .int (Z t 17 i 0)])) = cw G (setT Z t (su (Z t) 13 i 0 x)) := by
  have h9 := tw_uO13 G Z ht (Z t) h x
  rw [tw_self] at h9
  exact h9
theorem cu_O14 (G : oG) (Z : oZ) {t : Nat} (ht : t < 2) {i : Nat} (h : i < 8) (x : Int32) : (cw G Z).set (1 + 67 * t + (27 + 5 * i)) (ta G t (27 + 5 * i), .inr (2, [.ref (ta G t (28 + 5 * i)), .ref (ta G t (29 + 5 * i)), .ref (ta G t (30 + 5 * i)), .ref (ta G t (31 + 5 * i)), .int (Z t 10 i 0), .int (Z t 11 i 0), .int (Z t 12 i 0), .int (Z t 13 i 0), .int x, .int (Z t 15 i 0), .int (Z t 16 i 0), .int (Z t 17 i 0)])) = cw G (setT Z t (su (Z t) 14 i 0 x)) := by
  have h9 := tw_uO14 G Z ht (Z t) h x
  rw [tw_self] at h9
  exact h9
theorem cu_O15 (G : oG) (Z : oZ) {t : Nat} (ht : t < 2) {i : Nat} (h : i < 8) (x : Int32) : (cw G Z).set (1 + 67 * t + (27 + 5 * i)) (ta G t (27 + 5 * i), .inr (2, [.ref (ta G t (28 + 5 * i)), .ref (ta G t (29 + 5 * i)), .ref (ta G t (30 + 5 * i)), .ref (ta G t (31 + 5 * i)), .int (Z t 10 i 0), .int (Z t 11 i 0), .int (Z t 12 i 0), .int (Z t 13 i 0), .int (Z t 14 i 0), .int x, .int (Z t 16 i 0), .int (Z t 17 i 0)])) = cw G (setT Z t (su (Z t) 15 i 0 x)) := by
  have h9 := tw_uO15 G Z ht (Z t) h x
  rw [tw_self] at h9
  exact h9
theorem cu_O16 (G : oG) (Z : oZ) {t : Nat} (ht : t < 2) {i : Nat} (h : i < 8) (x : Int32) : (cw G Z).set (1 + 67 * t + (27 + 5 * i)) (ta G t (27 + 5 * i), .inr (2, [.ref (ta G t (28 + 5 * i)), .ref (ta G t (29 + 5 * i)), .ref (ta G t (30 + 5 * i)), .ref (ta G t (31 + 5 * i)), .int (Z t 10 i 0), .int (Z t 11 i 0), .int (Z t 12 i 0), .int (Z t 13 i 0), .int (Z t 14 i 0), .int (Z t 15 i 0), .int x, .int (Z t 17 i 0)])) = cw G (setT Z t (su (Z t) 16 i 0 x)) := by
  have h9 := tw_uO16 G Z ht (Z t) h x
  rw [tw_self] at h9
  exact h9
theorem cu_O17 (G : oG) (Z : oZ) {t : Nat} (ht : t < 2) {i : Nat} (h : i < 8) (x : Int32) : (cw G Z).set (1 + 67 * t + (27 + 5 * i)) (ta G t (27 + 5 * i), .inr (2, [.ref (ta G t (28 + 5 * i)), .ref (ta G t (29 + 5 * i)), .ref (ta G t (30 + 5 * i)), .ref (ta G t (31 + 5 * i)), .int (Z t 10 i 0), .int (Z t 11 i 0), .int (Z t 12 i 0), .int (Z t 13 i 0), .int (Z t 14 i 0), .int (Z t 15 i 0), .int (Z t 16 i 0), .int x])) = cw G (setT Z t (su (Z t) 17 i 0 x)) := by
  have h9 := tw_uO17 G Z ht (Z t) h x
  rw [tw_self] at h9
  exact h9
theorem cu_O6 (G : oG) (Z : oZ) {t : Nat} (ht : t < 2) {i : Nat} (h : i < 8) (j : Nat) (x : Int32) : (cw G Z).set (1 + 67 * t + (28 + 5 * i)) (ta G t (28 + 5 * i), .inl (G.2.2 0, 8, .inl (upd (Z t 6 i) j x))) = cw G (setT Z t (su (Z t) 6 i j x)) := by
  have h9 := tw_uO6 G Z ht (Z t) h j x
  rw [tw_self] at h9
  exact h9
theorem cu_O7 (G : oG) (Z : oZ) {t : Nat} (ht : t < 2) {i : Nat} (h : i < 8) (j : Nat) (x : Int32) : (cw G Z).set (1 + 67 * t + (29 + 5 * i)) (ta G t (29 + 5 * i), .inl (G.2.2 0, 6, .inl (upd (Z t 7 i) j x))) = cw G (setT Z t (su (Z t) 7 i j x)) := by
  have h9 := tw_uO7 G Z ht (Z t) h j x
  rw [tw_self] at h9
  exact h9
theorem cu_O8 (G : oG) (Z : oZ) {t : Nat} (ht : t < 2) {i : Nat} (h : i < 8) (j : Nat) (x : Int32) : (cw G Z).set (1 + 67 * t + (30 + 5 * i)) (ta G t (30 + 5 * i), .inl (G.2.2 0, 6, .inl (upd (Z t 8 i) j x))) = cw G (setT Z t (su (Z t) 8 i j x)) := by
  have h9 := tw_uO8 G Z ht (Z t) h j x
  rw [tw_self] at h9
  exact h9
theorem cu_O9 (G : oG) (Z : oZ) {t : Nat} (ht : t < 2) {i : Nat} (h : i < 8) (j : Nat) (x : Int32) : (cw G Z).set (1 + 67 * t + (31 + 5 * i)) (ta G t (31 + 5 * i), .inl (G.2.2 0, 6, .inl (upd (Z t 9 i) j x))) = cw G (setT Z t (su (Z t) 9 i j x)) := by
  have h9 := tw_uO9 G Z ht (Z t) h j x
  rw [tw_self] at h9
  exact h9
theorem cw_S0 (G : oG) (Z : oZ) {t : Nat} (ht : t < 2) {s : Nat} (h : s < 6) (x : Nat → Int32) : (cw G Z).set (1 + 67 * t + (4 + 4 * s)) (ta G t (4 + 4 * s), .inl (G.2.2 0, 24, .inl x)) = cw G (setT Z t (sw (Z t) 0 s x)) := by
  have h9 := tw_wS0 G Z ht (Z t) h x
  rw [tw_self] at h9
  exact h9
theorem cw_S1 (G : oG) (Z : oZ) {t : Nat} (ht : t < 2) {s : Nat} (h : s < 6) (x : Nat → Int32) : (cw G Z).set (1 + 67 * t + (5 + 4 * s)) (ta G t (5 + 4 * s), .inl (G.2.2 0, 6, .inl x)) = cw G (setT Z t (sw (Z t) 1 s x)) := by
  have h9 := tw_wS1 G Z ht (Z t) h x
  rw [tw_self] at h9
  exact h9
theorem cw_S2 (G : oG) (Z : oZ) {t : Nat} (ht : t < 2) {s : Nat} (h : s < 6) (x : Nat → Int32) : (cw G Z).set (1 + 67 * t + (6 + 4 * s)) (ta G t (6 + 4 * s), .inl (G.2.2 0, 6, .inl x)) = cw G (setT Z t (sw (Z t) 2 s x)) := by
  have h9 := tw_wS2 G Z ht (Z t) h x
  rw [tw_self] at h9
  exact h9
theorem cw_O6 (G : oG) (Z : oZ) {t : Nat} (ht : t < 2) {i : Nat} (h : i < 8) (x : Nat → Int32) : (cw G Z).set (1 + 67 * t + (28 + 5 * i)) (ta G t (28 + 5 * i), .inl (G.2.2 0, 8, .inl x)) = cw G (setT Z t (sw (Z t) 6 i x)) := by
  have h9 := tw_wO6 G Z ht (Z t) h x
  rw [tw_self] at h9
  exact h9
theorem cw_O7 (G : oG) (Z : oZ) {t : Nat} (ht : t < 2) {i : Nat} (h : i < 8) (x : Nat → Int32) : (cw G Z).set (1 + 67 * t + (29 + 5 * i)) (ta G t (29 + 5 * i), .inl (G.2.2 0, 6, .inl x)) = cw G (setT Z t (sw (Z t) 7 i x)) := by
  have h9 := tw_wO7 G Z ht (Z t) h x
  rw [tw_self] at h9
  exact h9
theorem cw_O8 (G : oG) (Z : oZ) {t : Nat} (ht : t < 2) {i : Nat} (h : i < 8) (x : Nat → Int32) : (cw G Z).set (1 + 67 * t + (30 + 5 * i)) (ta G t (30 + 5 * i), .inl (G.2.2 0, 6, .inl x)) = cw G (setT Z t (sw (Z t) 8 i x)) := by
  have h9 := tw_wO8 G Z ht (Z t) h x
  rw [tw_self] at h9
  exact h9
theorem cw_O9 (G : oG) (Z : oZ) {t : Nat} (ht : t < 2) {i : Nat} (h : i < 8) (x : Nat → Int32) : (cw G Z).set (1 + 67 * t + (31 + 5 * i)) (ta G t (31 + 5 * i), .inl (G.2.2 0, 6, .inl x)) = cw G (setT Z t (sw (Z t) 9 i x)) := by
  have h9 := tw_wO9 G Z ht (Z t) h x
  rw [tw_self] at h9
  exact h9
theorem cu_T0 (G : oG) (Z : oZ) {t : Nat} (ht : t < 2) (x : Int32) : (cw G Z).set (1 + 67 * t + (0)) (ta G t (0), .inr (5, [.ref (ta G t (1)), .ref (ta G t (2)), .int x, .int (Z t 18 0 1), .int (Z t 18 0 2)])) = cw G (setT Z t (su (Z t) 18 0 0 x)) := by
  have h9 := tw_uT0 G Z ht (Z t) x
  rw [tw_self] at h9
  exact h9
theorem cu_T1 (G : oG) (Z : oZ) {t : Nat} (ht : t < 2) (x : Int32) : (cw G Z).set (1 + 67 * t + (0)) (ta G t (0), .inr (5, [.ref (ta G t (1)), .ref (ta G t (2)), .int (Z t 18 0 0), .int x, .int (Z t 18 0 2)])) = cw G (setT Z t (su (Z t) 18 0 1 x)) := by
  have h9 := tw_uT1 G Z ht (Z t) x
  rw [tw_self] at h9
  exact h9
theorem cu_T2 (G : oG) (Z : oZ) {t : Nat} (ht : t < 2) (x : Int32) : (cw G Z).set (1 + 67 * t + (0)) (ta G t (0), .inr (5, [.ref (ta G t (1)), .ref (ta G t (2)), .int (Z t 18 0 0), .int (Z t 18 0 1), .int x])) = cw G (setT Z t (su (Z t) 18 0 2 x)) := by
  have h9 := tw_uT2 G Z ht (Z t) x
  rw [tw_self] at h9
  exact h9
theorem mv_S (G : oG) (Z : oZ) {o : Nat} (ho : o < 2) : (mw G Z)[3 + 18 * o + (0)]? = some (ms G o 0, .inr (7, [.int (Z o 40 0 0), .int (Z o 40 0 1), .ref (ms G o 1), .ref (ms G o 2), .ref (ms G o 3), .ref (ms G o 4), .ref (ms G o 5), .int (Z o 40 0 2), .ref (ms G o 6), .ref (ms G o 7), .ref (ms G o 8), .ref (ms G o 9), .ref (ms G o 10), .ref (ms G o 11), .ref (ms G o 12), .ref (ms G o 13), .ref (ms G o 14), .ref (ms G o 15), .ref (ms G o 16), .ref (ms G o 17), .ref (G.2.1 0)])) := by
  have h9 := mt_S G Z ho (Z o) 
  rw [mt_self] at h9
  exact h9
theorem mv_A1 (G : oG) (Z : oZ) {o : Nat} (ho : o < 2) : (mw G Z)[3 + 18 * o + (1)]? = some (ms G o 1, .inl (G.2.2 0, 6, .inl (Z o 1 0))) := by
  have h9 := mt_A1 G Z ho (Z o) 
  rw [mt_self] at h9
  exact h9
theorem mv_A2 (G : oG) (Z : oZ) {o : Nat} (ho : o < 2) : (mw G Z)[3 + 18 * o + (2)]? = some (ms G o 2, .inl (G.2.2 0, 36, .inl (Z o 2 0))) := by
  have h9 := mt_A2 G Z ho (Z o) 
  rw [mt_self] at h9
  exact h9
theorem mv_A3 (G : oG) (Z : oZ) {o : Nat} (ho : o < 2) : (mw G Z)[3 + 18 * o + (3)]? = some (ms G o 3, .inl (G.2.2 0, 36, .inl (Z o 3 0))) := by
  have h9 := mt_A3 G Z ho (Z o) 
  rw [mt_self] at h9
  exact h9
theorem mv_A4 (G : oG) (Z : oZ) {o : Nat} (ho : o < 2) : (mw G Z)[3 + 18 * o + (4)]? = some (ms G o 4, .inl (G.2.2 0, 6, .inl (Z o 4 0))) := by
  have h9 := mt_A4 G Z ho (Z o) 
  rw [mt_self] at h9
  exact h9
theorem mv_A5 (G : oG) (Z : oZ) {o : Nat} (ho : o < 2) : (mw G Z)[3 + 18 * o + (5)]? = some (ms G o 5, .inl (G.2.2 0, 6, .inl (Z o 5 0))) := by
  have h9 := mt_A5 G Z ho (Z o) 
  rw [mt_self] at h9
  exact h9
theorem mv_A6 (G : oG) (Z : oZ) {o : Nat} (ho : o < 2) : (mw G Z)[3 + 18 * o + (6)]? = some (ms G o 6, .inl (G.2.2 0, 8, .inl (Z o 6 0))) := by
  have h9 := mt_A6 G Z ho (Z o) 
  rw [mt_self] at h9
  exact h9
theorem mv_A7 (G : oG) (Z : oZ) {o : Nat} (ho : o < 2) : (mw G Z)[3 + 18 * o + (7)]? = some (ms G o 7, .inl (G.2.2 0, 8, .inl (Z o 7 0))) := by
  have h9 := mt_A7 G Z ho (Z o) 
  rw [mt_self] at h9
  exact h9
theorem mv_A8 (G : oG) (Z : oZ) {o : Nat} (ho : o < 2) : (mw G Z)[3 + 18 * o + (8)]? = some (ms G o 8, .inl (G.2.2 0, 8, .inl (Z o 8 0))) := by
  have h9 := mt_A8 G Z ho (Z o) 
  rw [mt_self] at h9
  exact h9
theorem mv_A9 (G : oG) (Z : oZ) {o : Nat} (ho : o < 2) : (mw G Z)[3 + 18 * o + (9)]? = some (ms G o 9, .inl (G.2.2 0, 8, .inl (Z o 9 0))) := by
  have h9 := mt_A9 G Z ho (Z o) 
  rw [mt_self] at h9
  exact h9
theorem mv_A10 (G : oG) (Z : oZ) {o : Nat} (ho : o < 2) : (mw G Z)[3 + 18 * o + (10)]? = some (ms G o 10, .inl (G.2.2 0, 8, .inl (Z o 10 0))) := by
  have h9 := mt_A10 G Z ho (Z o) 
  rw [mt_self] at h9
  exact h9
theorem mv_A11 (G : oG) (Z : oZ) {o : Nat} (ho : o < 2) : (mw G Z)[3 + 18 * o + (11)]? = some (ms G o 11, .inl (G.2.2 0, 8, .inl (Z o 11 0))) := by
  have h9 := mt_A11 G Z ho (Z o) 
  rw [mt_self] at h9
  exact h9
theorem mv_A12 (G : oG) (Z : oZ) {o : Nat} (ho : o < 2) : (mw G Z)[3 + 18 * o + (12)]? = some (ms G o 12, .inl (G.2.2 0, 8, .inl (Z o 12 0))) := by
  have h9 := mt_A12 G Z ho (Z o) 
  rw [mt_self] at h9
  exact h9
theorem mv_A13 (G : oG) (Z : oZ) {o : Nat} (ho : o < 2) : (mw G Z)[3 + 18 * o + (13)]? = some (ms G o 13, .inl (G.2.2 0, 48, .inl (Z o 13 0))) := by
  have h9 := mt_A13 G Z ho (Z o) 
  rw [mt_self] at h9
  exact h9
theorem mv_A14 (G : oG) (Z : oZ) {o : Nat} (ho : o < 2) : (mw G Z)[3 + 18 * o + (14)]? = some (ms G o 14, .inl (G.2.2 0, 48, .inl (Z o 14 0))) := by
  have h9 := mt_A14 G Z ho (Z o) 
  rw [mt_self] at h9
  exact h9
theorem mv_A15 (G : oG) (Z : oZ) {o : Nat} (ho : o < 2) : (mw G Z)[3 + 18 * o + (15)]? = some (ms G o 15, .inl (G.2.2 0, 48, .inl (Z o 15 0))) := by
  have h9 := mt_A15 G Z ho (Z o) 
  rw [mt_self] at h9
  exact h9
theorem mv_A16 (G : oG) (Z : oZ) {o : Nat} (ho : o < 2) : (mw G Z)[3 + 18 * o + (16)]? = some (ms G o 16, .inl (G.2.2 4, 8, .inl (Z o 16 0))) := by
  have h9 := mt_A16 G Z ho (Z o) 
  rw [mt_self] at h9
  exact h9
theorem mv_A17 (G : oG) (Z : oZ) {o : Nat} (ho : o < 2) : (mw G Z)[3 + 18 * o + (17)]? = some (ms G o 17, .inl (G.2.2 4, 48, .inl (Z o 17 0))) := by
  have h9 := mt_A17 G Z ho (Z o) 
  rw [mt_self] at h9
  exact h9
theorem mvu_A1 (G : oG) (Z : oZ) {o : Nat} (ho : o < 2) (j : Nat) (x : Int32) : (mw G Z).set (3 + 18 * o + (1)) (ms G o 1, .inl (G.2.2 0, 6, .inl (upd (Z o 1 0) j x))) = mw G (setT Z o (su (Z o) 1 0 j x)) := by
  have h9 := mt_uA1 G Z ho (Z o) j x
  rw [mt_self] at h9
  exact h9
theorem mvu_A2 (G : oG) (Z : oZ) {o : Nat} (ho : o < 2) (j : Nat) (x : Int32) : (mw G Z).set (3 + 18 * o + (2)) (ms G o 2, .inl (G.2.2 0, 36, .inl (upd (Z o 2 0) j x))) = mw G (setT Z o (su (Z o) 2 0 j x)) := by
  have h9 := mt_uA2 G Z ho (Z o) j x
  rw [mt_self] at h9
  exact h9
theorem mvu_A3 (G : oG) (Z : oZ) {o : Nat} (ho : o < 2) (j : Nat) (x : Int32) : (mw G Z).set (3 + 18 * o + (3)) (ms G o 3, .inl (G.2.2 0, 36, .inl (upd (Z o 3 0) j x))) = mw G (setT Z o (su (Z o) 3 0 j x)) := by
  have h9 := mt_uA3 G Z ho (Z o) j x
  rw [mt_self] at h9
  exact h9
theorem mvu_A4 (G : oG) (Z : oZ) {o : Nat} (ho : o < 2) (j : Nat) (x : Int32) : (mw G Z).set (3 + 18 * o + (4)) (ms G o 4, .inl (G.2.2 0, 6, .inl (upd (Z o 4 0) j x))) = mw G (setT Z o (su (Z o) 4 0 j x)) := by
  have h9 := mt_uA4 G Z ho (Z o) j x
  rw [mt_self] at h9
  exact h9
theorem mvu_A5 (G : oG) (Z : oZ) {o : Nat} (ho : o < 2) (j : Nat) (x : Int32) : (mw G Z).set (3 + 18 * o + (5)) (ms G o 5, .inl (G.2.2 0, 6, .inl (upd (Z o 5 0) j x))) = mw G (setT Z o (su (Z o) 5 0 j x)) := by
  have h9 := mt_uA5 G Z ho (Z o) j x
  rw [mt_self] at h9
  exact h9
theorem mvu_A6 (G : oG) (Z : oZ) {o : Nat} (ho : o < 2) (j : Nat) (x : Int32) : (mw G Z).set (3 + 18 * o + (6)) (ms G o 6, .inl (G.2.2 0, 8, .inl (upd (Z o 6 0) j x))) = mw G (setT Z o (su (Z o) 6 0 j x)) := by
  have h9 := mt_uA6 G Z ho (Z o) j x
  rw [mt_self] at h9
  exact h9
theorem mvu_A7 (G : oG) (Z : oZ) {o : Nat} (ho : o < 2) (j : Nat) (x : Int32) : (mw G Z).set (3 + 18 * o + (7)) (ms G o 7, .inl (G.2.2 0, 8, .inl (upd (Z o 7 0) j x))) = mw G (setT Z o (su (Z o) 7 0 j x)) := by
  have h9 := mt_uA7 G Z ho (Z o) j x
  rw [mt_self] at h9
  exact h9
theorem mvu_A8 (G : oG) (Z : oZ) {o : Nat} (ho : o < 2) (j : Nat) (x : Int32) : (mw G Z).set (3 + 18 * o + (8)) (ms G o 8, .inl (G.2.2 0, 8, .inl (upd (Z o 8 0) j x))) = mw G (setT Z o (su (Z o) 8 0 j x)) := by
  have h9 := mt_uA8 G Z ho (Z o) j x
  rw [mt_self] at h9
  exact h9
theorem mvu_A9 (G : oG) (Z : oZ) {o : Nat} (ho : o < 2) (j : Nat) (x : Int32) : (mw G Z).set (3 + 18 * o + (9)) (ms G o 9, .inl (G.2.2 0, 8, .inl (upd (Z o 9 0) j x))) = mw G (setT Z o (su (Z o) 9 0 j x)) := by
  have h9 := mt_uA9 G Z ho (Z o) j x
  rw [mt_self] at h9
  exact h9
theorem mvu_A10 (G : oG) (Z : oZ) {o : Nat} (ho : o < 2) (j : Nat) (x : Int32) : (mw G Z).set (3 + 18 * o + (10)) (ms G o 10, .inl (G.2.2 0, 8, .inl (upd (Z o 10 0) j x))) = mw G (setT Z o (su (Z o) 10 0 j x)) := by
  have h9 := mt_uA10 G Z ho (Z o) j x
  rw [mt_self] at h9
  exact h9
theorem mvu_A11 (G : oG) (Z : oZ) {o : Nat} (ho : o < 2) (j : Nat) (x : Int32) : (mw G Z).set (3 + 18 * o + (11)) (ms G o 11, .inl (G.2.2 0, 8, .inl (upd (Z o 11 0) j x))) = mw G (setT Z o (su (Z o) 11 0 j x)) := by
  have h9 := mt_uA11 G Z ho (Z o) j x
  rw [mt_self] at h9
  exact h9
theorem mvu_A12 (G : oG) (Z : oZ) {o : Nat} (ho : o < 2) (j : Nat) (x : Int32) : (mw G Z).set (3 + 18 * o + (12)) (ms G o 12, .inl (G.2.2 0, 8, .inl (upd (Z o 12 0) j x))) = mw G (setT Z o (su (Z o) 12 0 j x)) := by
  have h9 := mt_uA12 G Z ho (Z o) j x
  rw [mt_self] at h9
  exact h9
theorem mvu_A13 (G : oG) (Z : oZ) {o : Nat} (ho : o < 2) (j : Nat) (x : Int32) : (mw G Z).set (3 + 18 * o + (13)) (ms G o 13, .inl (G.2.2 0, 48, .inl (upd (Z o 13 0) j x))) = mw G (setT Z o (su (Z o) 13 0 j x)) := by
  have h9 := mt_uA13 G Z ho (Z o) j x
  rw [mt_self] at h9
  exact h9
theorem mvu_A14 (G : oG) (Z : oZ) {o : Nat} (ho : o < 2) (j : Nat) (x : Int32) : (mw G Z).set (3 + 18 * o + (14)) (ms G o 14, .inl (G.2.2 0, 48, .inl (upd (Z o 14 0) j x))) = mw G (setT Z o (su (Z o) 14 0 j x)) := by
  have h9 := mt_uA14 G Z ho (Z o) j x
  rw [mt_self] at h9
  exact h9
theorem mvu_A15 (G : oG) (Z : oZ) {o : Nat} (ho : o < 2) (j : Nat) (x : Int32) : (mw G Z).set (3 + 18 * o + (15)) (ms G o 15, .inl (G.2.2 0, 48, .inl (upd (Z o 15 0) j x))) = mw G (setT Z o (su (Z o) 15 0 j x)) := by
  have h9 := mt_uA15 G Z ho (Z o) j x
  rw [mt_self] at h9
  exact h9
theorem mvu_A16 (G : oG) (Z : oZ) {o : Nat} (ho : o < 2) (j : Nat) (x : Int32) : (mw G Z).set (3 + 18 * o + (16)) (ms G o 16, .inl (G.2.2 4, 8, .inl (upd (Z o 16 0) j x))) = mw G (setT Z o (su (Z o) 16 0 j x)) := by
  have h9 := mt_uA16 G Z ho (Z o) j x
  rw [mt_self] at h9
  exact h9
theorem mvu_A17 (G : oG) (Z : oZ) {o : Nat} (ho : o < 2) (j : Nat) (x : Int32) : (mw G Z).set (3 + 18 * o + (17)) (ms G o 17, .inl (G.2.2 4, 48, .inl (upd (Z o 17 0) j x))) = mw G (setT Z o (su (Z o) 17 0 j x)) := by
  have h9 := mt_uA17 G Z ho (Z o) j x
  rw [mt_self] at h9
  exact h9
theorem mvw_A1 (G : oG) (Z : oZ) {o : Nat} (ho : o < 2) (x : Nat → Int32) : (mw G Z).set (3 + 18 * o + (1)) (ms G o 1, .inl (G.2.2 0, 6, .inl x)) = mw G (setT Z o (sw (Z o) 1 0 x)) := by
  have h9 := mt_wA1 G Z ho (Z o) x
  rw [mt_self] at h9
  exact h9
theorem mvw_A2 (G : oG) (Z : oZ) {o : Nat} (ho : o < 2) (x : Nat → Int32) : (mw G Z).set (3 + 18 * o + (2)) (ms G o 2, .inl (G.2.2 0, 36, .inl x)) = mw G (setT Z o (sw (Z o) 2 0 x)) := by
  have h9 := mt_wA2 G Z ho (Z o) x
  rw [mt_self] at h9
  exact h9
theorem mvw_A3 (G : oG) (Z : oZ) {o : Nat} (ho : o < 2) (x : Nat → Int32) : (mw G Z).set (3 + 18 * o + (3)) (ms G o 3, .inl (G.2.2 0, 36, .inl x)) = mw G (setT Z o (sw (Z o) 3 0 x)) := by
  have h9 := mt_wA3 G Z ho (Z o) x
  rw [mt_self] at h9
  exact h9
theorem mvw_A4 (G : oG) (Z : oZ) {o : Nat} (ho : o < 2) (x : Nat → Int32) : (mw G Z).set (3 + 18 * o + (4)) (ms G o 4, .inl (G.2.2 0, 6, .inl x)) = mw G (setT Z o (sw (Z o) 4 0 x)) := by
  have h9 := mt_wA4 G Z ho (Z o) x
  rw [mt_self] at h9
  exact h9
theorem mvw_A5 (G : oG) (Z : oZ) {o : Nat} (ho : o < 2) (x : Nat → Int32) : (mw G Z).set (3 + 18 * o + (5)) (ms G o 5, .inl (G.2.2 0, 6, .inl x)) = mw G (setT Z o (sw (Z o) 5 0 x)) := by
  have h9 := mt_wA5 G Z ho (Z o) x
  rw [mt_self] at h9
  exact h9
theorem mvw_A6 (G : oG) (Z : oZ) {o : Nat} (ho : o < 2) (x : Nat → Int32) : (mw G Z).set (3 + 18 * o + (6)) (ms G o 6, .inl (G.2.2 0, 8, .inl x)) = mw G (setT Z o (sw (Z o) 6 0 x)) := by
  have h9 := mt_wA6 G Z ho (Z o) x
  rw [mt_self] at h9
  exact h9
theorem mvw_A7 (G : oG) (Z : oZ) {o : Nat} (ho : o < 2) (x : Nat → Int32) : (mw G Z).set (3 + 18 * o + (7)) (ms G o 7, .inl (G.2.2 0, 8, .inl x)) = mw G (setT Z o (sw (Z o) 7 0 x)) := by
  have h9 := mt_wA7 G Z ho (Z o) x
  rw [mt_self] at h9
  exact h9
theorem mvw_A8 (G : oG) (Z : oZ) {o : Nat} (ho : o < 2) (x : Nat → Int32) : (mw G Z).set (3 + 18 * o + (8)) (ms G o 8, .inl (G.2.2 0, 8, .inl x)) = mw G (setT Z o (sw (Z o) 8 0 x)) := by
  have h9 := mt_wA8 G Z ho (Z o) x
  rw [mt_self] at h9
  exact h9
theorem mvw_A9 (G : oG) (Z : oZ) {o : Nat} (ho : o < 2) (x : Nat → Int32) : (mw G Z).set (3 + 18 * o + (9)) (ms G o 9, .inl (G.2.2 0, 8, .inl x)) = mw G (setT Z o (sw (Z o) 9 0 x)) := by
  have h9 := mt_wA9 G Z ho (Z o) x
  rw [mt_self] at h9
  exact h9
theorem mvw_A10 (G : oG) (Z : oZ) {o : Nat} (ho : o < 2) (x : Nat → Int32) : (mw G Z).set (3 + 18 * o + (10)) (ms G o 10, .inl (G.2.2 0, 8, .inl x)) = mw G (setT Z o (sw (Z o) 10 0 x)) := by
  have h9 := mt_wA10 G Z ho (Z o) x
  rw [mt_self] at h9
  exact h9
theorem mvw_A11 (G : oG) (Z : oZ) {o : Nat} (ho : o < 2) (x : Nat → Int32) : (mw G Z).set (3 + 18 * o + (11)) (ms G o 11, .inl (G.2.2 0, 8, .inl x)) = mw G (setT Z o (sw (Z o) 11 0 x)) := by
  have h9 := mt_wA11 G Z ho (Z o) x
  rw [mt_self] at h9
  exact h9
theorem mvw_A12 (G : oG) (Z : oZ) {o : Nat} (ho : o < 2) (x : Nat → Int32) : (mw G Z).set (3 + 18 * o + (12)) (ms G o 12, .inl (G.2.2 0, 8, .inl x)) = mw G (setT Z o (sw (Z o) 12 0 x)) := by
  have h9 := mt_wA12 G Z ho (Z o) x
  rw [mt_self] at h9
  exact h9
theorem mvw_A13 (G : oG) (Z : oZ) {o : Nat} (ho : o < 2) (x : Nat → Int32) : (mw G Z).set (3 + 18 * o + (13)) (ms G o 13, .inl (G.2.2 0, 48, .inl x)) = mw G (setT Z o (sw (Z o) 13 0 x)) := by
  have h9 := mt_wA13 G Z ho (Z o) x
  rw [mt_self] at h9
  exact h9
theorem mvw_A14 (G : oG) (Z : oZ) {o : Nat} (ho : o < 2) (x : Nat → Int32) : (mw G Z).set (3 + 18 * o + (14)) (ms G o 14, .inl (G.2.2 0, 48, .inl x)) = mw G (setT Z o (sw (Z o) 14 0 x)) := by
  have h9 := mt_wA14 G Z ho (Z o) x
  rw [mt_self] at h9
  exact h9
theorem mvw_A15 (G : oG) (Z : oZ) {o : Nat} (ho : o < 2) (x : Nat → Int32) : (mw G Z).set (3 + 18 * o + (15)) (ms G o 15, .inl (G.2.2 0, 48, .inl x)) = mw G (setT Z o (sw (Z o) 15 0 x)) := by
  have h9 := mt_wA15 G Z ho (Z o) x
  rw [mt_self] at h9
  exact h9
theorem mvu_S0 (G : oG) (Z : oZ) {o : Nat} (ho : o < 2) (x : Int32) : (mw G Z).set (3 + 18 * o + (0)) (ms G o 0, .inr (7, [.int x, .int (Z o 40 0 1), .ref (ms G o 1), .ref (ms G o 2), .ref (ms G o 3), .ref (ms G o 4), .ref (ms G o 5), .int (Z o 40 0 2), .ref (ms G o 6), .ref (ms G o 7), .ref (ms G o 8), .ref (ms G o 9), .ref (ms G o 10), .ref (ms G o 11), .ref (ms G o 12), .ref (ms G o 13), .ref (ms G o 14), .ref (ms G o 15), .ref (ms G o 16), .ref (ms G o 17), .ref (G.2.1 0)])) = mw G (setT Z o (su (Z o) 40 0 0 x)) := by
  have h9 := mt_uS0 G Z ho (Z o) x
  rw [mt_self] at h9
  exact h9
theorem mvu_S1 (G : oG) (Z : oZ) {o : Nat} (ho : o < 2) (x : Int32) : (mw G Z).set (3 + 18 * o + (0)) (ms G o 0, .inr (7, [.int (Z o 40 0 0), .int x, .ref (ms G o 1), .ref (ms G o 2), .ref (ms G o 3), .ref (ms G o 4), .ref (ms G o 5), .int (Z o 40 0 2), .ref (ms G o 6), .ref (ms G o 7), .ref (ms G o 8), .ref (ms G o 9), .ref (ms G o 10), .ref (ms G o 11), .ref (ms G o 12), .ref (ms G o 13), .ref (ms G o 14), .ref (ms G o 15), .ref (ms G o 16), .ref (ms G o 17), .ref (G.2.1 0)])) = mw G (setT Z o (su (Z o) 40 0 1 x)) := by
  have h9 := mt_uS1 G Z ho (Z o) x
  rw [mt_self] at h9
  exact h9
theorem mvu_S2 (G : oG) (Z : oZ) {o : Nat} (ho : o < 2) (x : Int32) : (mw G Z).set (3 + 18 * o + (0)) (ms G o 0, .inr (7, [.int (Z o 40 0 0), .int (Z o 40 0 1), .ref (ms G o 1), .ref (ms G o 2), .ref (ms G o 3), .ref (ms G o 4), .ref (ms G o 5), .int x, .ref (ms G o 6), .ref (ms G o 7), .ref (ms G o 8), .ref (ms G o 9), .ref (ms G o 10), .ref (ms G o 11), .ref (ms G o 12), .ref (ms G o 13), .ref (ms G o 14), .ref (ms G o 15), .ref (ms G o 16), .ref (ms G o 17), .ref (G.2.1 0)])) = mw G (setT Z o (su (Z o) 40 0 2 x)) := by
  have h9 := mt_uS2 G Z ho (Z o) x
  rw [mt_self] at h9
  exact h9
