/-! methods of the reference that make an array -/
theorem wl_app {w x : va_W} {k : Nat} {e : Nat × va_E} (h : w[k]? = some e) : (w ++ x)[k]? = some e := by rw [List.getElem?_append_left (List.getElem?_eq_some_iff.mp h).1]; exact h
theorem mw_39 (G : oG) (Z : oZ) (x : Nat × va_E) : (mw G Z ++ [x])[39]? = some x := by
  have h : (mw G Z).length = 39 := wl_len _ _ _
  rw [List.getElem?_append_right (by omega), h]; rfl
theorem mw_set39 (G : oG) (Z : oZ) (x y : Nat × va_E) : (mw G Z ++ [x]).set 39 y = mw G Z ++ [y] := by
  have h : (mw G Z).length = 39 := wl_len _ _ _
  rw [List.set_append_right _ _ (by omega), h]; rfl
/-- what a method that makes cells may write -/
def mN (G : oG) (sz : Nat) : Nat → Prop := fun q => mA G q ∨ sz ≤ q
theorem mN_D {G : oG} {Z : oZ} {sz : Nat} (hI : wl_I G.2.1 39) : va_D (mN G sz) (mw G Z) := (mw_D G Z hI).weaken (fun _ _ _ h => Or.inl h)
/-- what an organ tells -/
def mOT (τ : oT) (nS nO i w : Nat) : Int32 := match w with
  | 0 => τ 6 0 i
  | 1 => τ 7 0 i
  | 2 => τ 8 0 i
  | 3 => τ 9 0 i
  | 4 => τ 10 0 i
  | 5 => τ 11 0 i
  | 6 => τ 12 0 i
  | 7 => nI (qTu τ i)
  | 8 => τ 13 0 (6 * i + qTu τ i)
  | 9 => qCo τ (-1) (nI i) (nO * 6)
  | _ => qBS τ i nS
