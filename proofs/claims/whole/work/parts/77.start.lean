/-! The memories at the start -/
def oT0 : oT := fun k _ => if k = 1 then o_fl (fun _ => 0) 5 6 else fun _ => 0
def mT0 : oT := fun _ _ _ => 0
theorem arr_eq {cA : ClassId} {n : Nat} {f g : Nat → Value} (h : ∀ j, j < n → f j = g j) : arrV cA n f = arrV cA n g := by
  unfold arrV
  have e : (fun j : Fin n => f j.val) = fun j : Fin n => g j.val := funext fun j => h j.val j.isLt
  rw [e]
theorem va_at_q {D : va_G} {cl : List vw_C} {a n : Nat} {cA : ClassId} {f g : Nat → Option Nat} {H : Heap} (h : va_at D cl (a, .inl (cA, n, .inr (.inr (.inr (.inr f))))) H) (e : ∀ j, j < n → f j = g j) : va_at D cl (a, .inl (cA, n, .inr (.inr (.inr (.inr g))))) H := by
  have h1 : H[a]? = some (vp_cell cA (n, .inr (.inr (.inr (.inr f))))) := h
  show H[a]? = some (vp_cell cA (n, .inr (.inr (.inr (.inr g)))))
  rw [h1, vp_cell_q, vp_cell_q, arr_eq (fun j hj => by rw [e j hj])]
theorem va_at_e {D : va_G} {cl : List vw_C} {a b : Nat} {x y : va_E} {H : Heap} (h : va_at D cl (a, x) H) (ea : a = b) (e : x = y) : va_at D cl (b, y) H := by
  subst ea; subst e; exact h
/-- a town's cells -/
theorem mk_town {D : va_G} {kl : Nat → ClassId} {b t c : Nat} {H : Heap} (ht : t < 2) (hc : c = b + (1 + 67 * t)) (h : ∀ k, k < 67 → va_at D vwCl (c + k, o0 5 (X3s c) (X3F (D, ga b, kl) c 6 8) k) H) : ∀ k, k < 67 → va_at D vwCl (ga b (1 + 67 * t + k), tc (D, ga b, kl) t oT0 k) H := by
  subst hc
  refine tc_cases (fun k hk => ?_) (fun s j hs hj => ?_) (fun i j hi hj => ?_)
  · have h1 := h k (by omega)
    rw [tc_H _ _ _ hk]
    rcases (show k = 0 ∨ k = 1 ∨ k = 2 by omega) with rfl | rfl | rfl
    · refine va_at_e h1 (by simp only [ga]; omega) ?_
      show Sum.inr (5, [Value.ref (b + (1 + 67 * t) + 1), .ref (b + (1 + 67 * t) + 2), .int 0, .int 0, .int 0]) = Sum.inr (5, [Value.ref (b + (1 + 67 * t + 1)), .ref (b + (1 + 67 * t + 2)), .int 0, .int 0, .int 0])
      rw [show b + (1 + 67 * t) + 1 = b + (1 + 67 * t + 1) by omega, show b + (1 + 67 * t) + 2 = b + (1 + 67 * t + 2) by omega]
    · have h2 : va_at D vwCl (b + (1 + 67 * t) + 1, .inl (kl 1, 6, .inr (.inr (.inr (.inr (X3R (b + (1 + 67 * t) + 3) 4 6)))))) H := h1
      refine va_at_e (va_at_q (g := fun j => some (ta (D, ga b, kl) t (3 + 4 * j))) h2 (fun j hj => ?_)) (by simp only [ga]; omega) rfl
      show (if j < 6 then some (b + (1 + 67 * t) + 3 + 4 * j) else none) = some (b + (1 + 67 * t + (3 + 4 * j)))
      rw [if_pos hj, show b + (1 + 67 * t) + 3 + 4 * j = b + (1 + 67 * t + (3 + 4 * j)) by omega]
    · have h2 : va_at D vwCl (b + (1 + 67 * t) + 2, .inl (kl 2, 8, .inr (.inr (.inr (.inr (X3R (b + (1 + 67 * t) + 27) 5 8)))))) H := h1
      refine va_at_e (va_at_q (g := fun j => some (ta (D, ga b, kl) t (27 + 5 * j))) h2 (fun j hj => ?_)) (by simp only [ga]; omega) rfl
      show (if j < 8 then some (b + (1 + 67 * t) + 27 + 5 * j) else none) = some (b + (1 + 67 * t + (27 + 5 * j)))
      rw [if_pos hj, show b + (1 + 67 * t) + 27 + 5 * j = b + (1 + 67 * t + (27 + 5 * j)) by omega]
  · have h1 := h (3 + 4 * s + j) (by omega)
    rw [tc_S _ _ _ hs hj]
    rw [X3F_S _ _ _ _ _ hs hj] at h1
    refine va_at_e h1 (by simp only [ga]; omega) ?_
    rcases (show j = 0 ∨ j = 1 ∨ j = 2 ∨ j = 3 by omega) with rfl | rfl | rfl | rfl
    · show Sum.inr (4, [Value.ref (b + (1 + 67 * t) + (3 + 4 * s) + 1), .ref (b + (1 + 67 * t) + (3 + 4 * s) + 2), .ref (b + (1 + 67 * t) + (3 + 4 * s) + 3), .int 0, .int 0, .int 0]) = Sum.inr (4, [Value.ref (b + (1 + 67 * t + (4 + 4 * s))), .ref (b + (1 + 67 * t + (5 + 4 * s))), .ref (b + (1 + 67 * t + (6 + 4 * s))), .int 0, .int 0, .int 0])
      rw [show b + (1 + 67 * t) + (3 + 4 * s) + 1 = b + (1 + 67 * t + (4 + 4 * s)) by omega, show b + (1 + 67 * t) + (3 + 4 * s) + 2 = b + (1 + 67 * t + (5 + 4 * s)) by omega, show b + (1 + 67 * t) + (3 + 4 * s) + 3 = b + (1 + 67 * t + (6 + 4 * s)) by omega]
    · rfl
    · rfl
    · rfl
  · have h1 := h (27 + 5 * i + j) (by omega)
    rw [tc_O _ _ _ hj]
    rw [X3F_O _ _ _ _ _ hj] at h1
    refine va_at_e h1 (by simp only [ga]; omega) ?_
    rcases (show j = 0 ∨ j = 1 ∨ j = 2 ∨ j = 3 ∨ j = 4 by omega) with rfl | rfl | rfl | rfl | rfl
    · show Sum.inr (2, [Value.ref (b + (1 + 67 * t) + (27 + 5 * i) + 1), .ref (b + (1 + 67 * t) + (27 + 5 * i) + 2), .ref (b + (1 + 67 * t) + (27 + 5 * i) + 3), .ref (b + (1 + 67 * t) + (27 + 5 * i) + 4), .int 0, .int 0, .int 0, .int 0, .int 0, .int 0, .int 0, .int 0]) = Sum.inr (2, [Value.ref (b + (1 + 67 * t + (28 + 5 * i))), .ref (b + (1 + 67 * t + (29 + 5 * i))), .ref (b + (1 + 67 * t + (30 + 5 * i))), .ref (b + (1 + 67 * t + (31 + 5 * i))), .int 0, .int 0, .int 0, .int 0, .int 0, .int 0, .int 0, .int 0])
      rw [show b + (1 + 67 * t) + (27 + 5 * i) + 1 = b + (1 + 67 * t + (28 + 5 * i)) by omega, show b + (1 + 67 * t) + (27 + 5 * i) + 2 = b + (1 + 67 * t + (29 + 5 * i)) by omega, show b + (1 + 67 * t) + (27 + 5 * i) + 3 = b + (1 + 67 * t + (30 + 5 * i)) by omega, show b + (1 + 67 * t) + (27 + 5 * i) + 4 = b + (1 + 67 * t + (31 + 5 * i)) by omega]
    · rfl
    · rfl
    · rfl
    · rfl
theorem mk_cw {D : va_G} {kl : Nat → ClassId} {b : Nat} {H : Heap} (h : va_P D vwCl (qw b 137 (o0 6 [.ref (b + 1), .ref (b + 68), .ref (b + 135)] (X4F (D, ga b, kl) b))) H) : va_P D vwCl (cw (D, ga b, kl) (z3 oT0 oT0 mT0)) H := by
  have h9 : ∀ k, k < 137 → va_at D vwCl (b + k, o0 6 [.ref (b + 1), .ref (b + 68), .ref (b + 135)] (X4F (D, ga b, kl) b) k) H := fun k hk => h k _ (wl_at hk rfl)
  have main : ∀ k, k < 137 → va_at D vwCl (ga b k, cc (D, ga b, kl) (z3 oT0 oT0 mT0) k) H := by
    refine cc_cases (h9 0 (by decide)) (fun t k ht hk => ?_) (h9 135 (by decide)) (h9 136 (by decide))
    rw [cc_T _ _ ht hk]
    rcases (show t = 0 ∨ t = 1 by omega) with rfl | rfl
    · refine mk_town (c := b + 1) (t := 0) (by decide) rfl (fun k hk => ?_) k hk
      refine va_at_e (h9 (1 + k) (by omega)) (by omega) ?_
      rw [o0, if_neg (by omega), X4F, if_pos (by omega), Nat.add_sub_cancel_left]
    · refine mk_town (c := b + 68) (t := 1) (by decide) rfl (fun k hk => ?_) k hk
      refine va_at_e (h9 (68 + k) (by omega)) (by omega) ?_
      rw [o0, if_neg (by omega), X4F, if_neg (by omega), if_pos (by omega), Nat.add_sub_cancel_left]
  intro k q hk
  obtain ⟨hl, rfl⟩ := wl_get hk
  exact main k hl
theorem mk_mw {D : va_G} {kl : Nat → ClassId} {b : Nat} {H : Heap} (h : va_P D vwCl (qw b 39 (o0 8 [.int 0, .ref (b + 1), .ref (b + 2), .int 0, .ref (b + 3), .ref (b + 21)] (X6F (D, ga b, kl) b))) H) : va_P D vwCl (mw (D, ga b, kl) (z3 mT0 mT0 mT0)) H := by
  have h9 : ∀ k, k < 39 → va_at D vwCl (b + k, o0 8 [.int 0, .ref (b + 1), .ref (b + 2), .int 0, .ref (b + 3), .ref (b + 21)] (X6F (D, ga b, kl) b) k) H := fun k hk => h k _ (wl_at hk rfl)
  have main : ∀ k, k < 39 → va_at D vwCl (ga b k, mcc (D, ga b, kl) (z3 mT0 mT0 mT0) k) H := by
    refine mcc_cases (fun k hk => ?_) (fun o a ho ha => ?_)
    · rw [mcc_H _ _ hk]
      rcases (show k = 0 ∨ k = 1 ∨ k = 2 by omega) with rfl | rfl | rfl
      · exact h9 0 (by decide)
      · exact h9 1 (by decide)
      · exact h9 2 (by decide)
    · rw [mcc_S _ _ _ ha]
      rcases (show o = 0 ∨ o = 1 by omega) with rfl | rfl
      · refine va_at_e (h9 (3 + a) (by omega)) (by simp only [ga] <;> omega) ?_
        rw [o0, if_neg (by omega), X6F, if_neg (by omega), if_pos (by omega), Nat.add_sub_cancel_left]
        revert ha a
        exact mS_cases rfl rfl rfl rfl rfl rfl rfl rfl rfl rfl rfl rfl rfl rfl rfl rfl rfl rfl
      · refine va_at_e (h9 (21 + a) (by omega)) (by simp only [ga] <;> omega) ?_
        rw [o0, if_neg (by omega), X6F, if_neg (by omega), if_neg (by omega), Nat.add_sub_cancel_left]
        revert ha a
        exact mS_cases rfl rfl rfl rfl rfl rfl rfl rfl rfl rfl rfl rfl rfl rfl rfl rfl rfl rfl
  intro k q hk
  obtain ⟨hl, rfl⟩ := wl_get hk
  exact main k hl
