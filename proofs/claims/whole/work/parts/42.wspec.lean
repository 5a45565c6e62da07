/-! a text written by the reference -/
def mWr (γ : oT) (nP : Nat) (f : Nat → Int32) : Nat → oT
  | 0 => γ
  | k + 1 => su (su (mWr γ nP f k) 43 0 (nP + k) (oCh (f k))) 41 0 1 (nI (nP + k + 1))
theorem mWr_p {γ : oT} {nP : Nat} (h : γ 41 0 1 = nI nP) (f : Nat → Int32) : ∀ k, mWr γ nP f k 41 0 1 = nI (nP + k)
  | 0 => h
  | k + 1 => by rw [mWr, su_s]; rfl
def mWrT (γ : oT) (nP n : Nat) (f : Nat → Int32) : oT := su (su (mWr γ nP f n) 43 0 (nP + n) 10) 41 0 1 (nI (nP + n + 1))
