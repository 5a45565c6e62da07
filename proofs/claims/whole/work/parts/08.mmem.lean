/-! The reference's memory: 0 the model, 1 passers, 2 paper, then two states of eighteen cells. Kinds of a state: 1 pitches, 2 taste, 3 weary, 4 given, 5 sent, 6 at, 7 pitch, 8 left, 9 loud, 10 coins, 11 barrel, 12 place, 13 wear, 14 complaints, 15 banished, 16 went, 17 isNew; 40: hour, streets, organs. Beside them (2): 41: thrown, papered; 42 passers; 43 paper. -/
def ms (G : oG) (o a : Nat) : Nat := G.2.1 (3 + 18 * o + a)
def mS (G : oG) (o : Nat) (τ : oT) (a : Nat) : va_E := match a with
  | 0 => .inr (7, [.int (τ 40 0 0), .int (τ 40 0 1), .ref (ms G o 1), .ref (ms G o 2), .ref (ms G o 3), .ref (ms G o 4), .ref (ms G o 5), .int (τ 40 0 2), .ref (ms G o 6), .ref (ms G o 7), .ref (ms G o 8), .ref (ms G o 9), .ref (ms G o 10), .ref (ms G o 11), .ref (ms G o 12), .ref (ms G o 13), .ref (ms G o 14), .ref (ms G o 15), .ref (ms G o 16), .ref (ms G o 17), .ref (G.2.1 0)])
  | 1 => .inl (G.2.2 0, 6, .inl (τ 1 0))
  | 2 => .inl (G.2.2 0, 36, .inl (τ 2 0))
  | 3 => .inl (G.2.2 0, 36, .inl (τ 3 0))
  | 4 => .inl (G.2.2 0, 6, .inl (τ 4 0))
  | 5 => .inl (G.2.2 0, 6, .inl (τ 5 0))
  | 6 => .inl (G.2.2 0, 8, .inl (τ 6 0))
  | 7 => .inl (G.2.2 0, 8, .inl (τ 7 0))
  | 8 => .inl (G.2.2 0, 8, .inl (τ 8 0))
  | 9 => .inl (G.2.2 0, 8, .inl (τ 9 0))
  | 10 => .inl (G.2.2 0, 8, .inl (τ 10 0))
  | 11 => .inl (G.2.2 0, 8, .inl (τ 11 0))
  | 12 => .inl (G.2.2 0, 8, .inl (τ 12 0))
  | 13 => .inl (G.2.2 0, 48, .inl (τ 13 0))
  | 14 => .inl (G.2.2 0, 48, .inl (τ 14 0))
  | 15 => .inl (G.2.2 0, 48, .inl (τ 15 0))
  | 16 => .inl (G.2.2 4, 8, .inl (τ 16 0))
  | _ => .inl (G.2.2 4, 48, .inl (τ 17 0))
def mH (G : oG) (τ : oT) (a : Nat) : va_E := match a with
  | 0 => .inr (8, [.int (τ 41 0 0), .ref (G.2.1 1), .ref (G.2.1 2), .int (τ 41 0 1), .ref (ms G 0 0), .ref (ms G 1 0)])
  | 1 => .inl (G.2.2 0, 144, .inl (τ 42 0))
  | _ => .inl (G.2.2 0, 1000, .inl (τ 43 0))
def mcc (G : oG) (Z : oZ) (k : Nat) : va_E := if k < 3 then mH G (Z 2) k else mS G ((k - 3) / 18) (Z ((k - 3) / 18)) ((k - 3) % 18)
def mw (G : oG) (Z : oZ) : va_W := wl G.2.1 39 (mcc G Z)
/-- the world with the memory τ in the state o -/
def mtw (G : oG) (Z : oZ) (o : Nat) (τ : oT) : va_W := mw G (setT Z o τ)
theorem mcc_H (G : oG) (Z : oZ) {k : Nat} (h : k < 3) : mcc G Z k = mH G (Z 2) k := if_pos h
theorem mcc_S (G : oG) (Z : oZ) (o : Nat) {a : Nat} (ha : a < 18) : mcc G Z (3 + 18 * o + a) = mS G o (Z o) a := by
  rw [mcc, if_neg (by omega), show (3 + 18 * o + a - 3) / 18 = o by omega, show (3 + 18 * o + a - 3) % 18 = a by omega]
theorem mcc_cases {P : Nat → Prop} (hH : ∀ k, k < 3 → P k) (hS : ∀ o a, o < 2 → a < 18 → P (3 + 18 * o + a)) : ∀ k, k < 39 → P k := by
  intro k hk
  by_cases h1 : k < 3
  · exact hH k h1
  · have := hS ((k - 3) / 18) ((k - 3) % 18) (by omega) (by omega)
    rwa [show 3 + 18 * ((k - 3) / 18) + (k - 3) % 18 = k by omega] at this
theorem mt_at {G : oG} {Z : oZ} {o a : Nat} {τ : oT} {e : va_E} (ho : o < 2) (ha : a < 18) (he : mS G o τ a = e) : (mtw G Z o τ)[3 + 18 * o + a]? = some (ms G o a, e) := wl_at (by omega) ((mcc_S _ _ _ ha).trans (by rw [setT_s]; exact he))
theorem mt_set {G : oG} {Z : oZ} {o a : Nat} {τ τ' : oT} {e : va_E} (ho : o < 2) (ha : a < 18) (h : ∀ b, b < 18 → mS G o τ' b = if b = a then e else mS G o τ b) : (mtw G Z o τ).set (3 + 18 * o + a) (ms G o a, e) = mtw G Z o τ' := by
  refine wl_set (mcc_cases (fun k hk => ?_) (fun q b hq hb => ?_))
  · rw [if_neg (by omega), mcc_H _ _ hk, mcc_H _ _ hk, setT_n _ _ (show 2 ≠ o by omega), setT_n _ _ (show 2 ≠ o by omega)]
  · rw [mcc_S _ _ _ hb, mcc_S _ _ _ hb]
    by_cases hqo : q = o
    · subst hqo
      rw [setT_s, setT_s, h b hb]
      by_cases hba : b = a
      · rw [if_pos hba, if_pos (by omega)]
      · rw [if_neg hba, if_neg (by omega)]
    · rw [setT_n _ _ hqo, setT_n _ _ hqo, if_neg (by omega)]
theorem mS_cases {P : Nat → Prop} (h0 : P 0) (h1 : P 1) (h2 : P 2) (h3 : P 3) (h4 : P 4) (h5 : P 5) (h6 : P 6) (h7 : P 7) (h8 : P 8) (h9 : P 9) (h10 : P 10) (h11 : P 11) (h12 : P 12) (h13 : P 13) (h14 : P 14) (h15 : P 15) (h16 : P 16) (h17 : P 17) : ∀ a, a < 18 → P a := by
  intro a ha
  rcases (show a = 0 ∨ a = 1 ∨ a = 2 ∨ a = 3 ∨ a = 4 ∨ a = 5 ∨ a = 6 ∨ a = 7 ∨ a = 8 ∨ a = 9 ∨ a = 10 ∨ a = 11 ∨ a = 12 ∨ a = 13 ∨ a = 14 ∨ a = 15 ∨ a = 16 ∨ a = 17 by omega) with rfl | rfl | rfl | rfl | rfl | rfl | rfl | rfl | rfl | rfl | rfl | rfl | rfl | rfl | rfl | rfl | rfl | rfl
  all_goals assumption
theorem mt_S (G : oG) (Z : oZ) {o : Nat} (ho : o < 2) (τ : oT) : (mtw G Z o τ)[3 + 18 * o + (0)]? = some (ms G o 0, .inr (7, [.int (τ 40 0 0), .int (τ 40 0 1), .ref (ms G o 1), .ref (ms G o 2), .ref (ms G o 3), .ref (ms G o 4), .ref (ms G o 5), .int (τ 40 0 2), .ref (ms G o 6), .ref (ms G o 7), .ref (ms G o 8), .ref (ms G o 9), .ref (ms G o 10), .ref (ms G o 11), .ref (ms G o 12), .ref (ms G o 13), .ref (ms G o 14), .ref (ms G o 15), .ref (ms G o 16), .ref (ms G o 17), .ref (G.2.1 0)])) := mt_at ho (by decide) rfl
theorem mt_A1 (G : oG) (Z : oZ) {o : Nat} (ho : o < 2) (τ : oT) : (mtw G Z o τ)[3 + 18 * o + (1)]? = some (ms G o 1, .inl (G.2.2 0, 6, .inl (τ 1 0))) := mt_at ho (by decide) rfl
theorem mt_A2 (G : oG) (Z : oZ) {o : Nat} (ho : o < 2) (τ : oT) : (mtw G Z o τ)[3 + 18 * o + (2)]? = some (ms G o 2, .inl (G.2.2 0, 36, .inl (τ 2 0))) := mt_at ho (by decide) rfl
theorem mt_A3 (G : oG) (Z : oZ) {o : Nat} (ho : o < 2) (τ : oT) : (mtw G Z o τ)[3 + 18 * o + (3)]? = some (ms G o 3, .inl (G.2.2 0, 36, .inl (τ 3 0))) := mt_at ho (by decide) rfl
theorem mt_A4 (G : oG) (Z : oZ) {o : Nat} (ho : o < 2) (τ : oT) : (mtw G Z o τ)[3 + 18 * o + (4)]? = some (ms G o 4, .inl (G.2.2 0, 6, .inl (τ 4 0))) := mt_at ho (by decide) rfl
theorem mt_A5 (G : oG) (Z : oZ) {o : Nat} (ho : o < 2) (τ : oT) : (mtw G Z o τ)[3 + 18 * o + (5)]? = some (ms G o 5, .inl (G.2.2 0, 6, .inl (τ 5 0))) := mt_at ho (by decide) rfl
theorem mt_A6 (G : oG) (Z : oZ) {o : Nat} (ho : o < 2) (τ : oT) : (mtw G Z o τ)[3 + 18 * o + (6)]? = some (ms G o 6, .inl (G.2.2 0, 8, .inl (τ 6 0))) := mt_at ho (by decide) rfl
theorem mt_A7 (G : oG) (Z : oZ) {o : Nat} (ho : o < 2) (τ : oT) : (mtw G Z o τ)[3 + 18 * o + (7)]? = some (ms G o 7, .inl (G.2.2 0, 8, .inl (τ 7 0))) := mt_at ho (by decide) rfl
theorem mt_A8 (G : oG) (Z : oZ) {o : Nat} (ho : o < 2) (τ : oT) : (mtw G Z o τ)[3 + 18 * o + (8)]? = some (ms G o 8, .inl (G.2.2 0, 8, .inl (τ 8 0))) := mt_at ho (by decide) rfl
theorem mt_A9 (G : oG) (Z : oZ) {o : Nat} (ho : o < 2) (τ : oT) : (mtw G Z o τ)[3 + 18 * o + (9)]? = some (ms G o 9, .inl (G.2.2 0, 8, .inl (τ 9 0))) := mt_at ho (by decide) rfl
theorem mt_A10 (G : oG) (Z : oZ) {o : Nat} (ho : o < 2) (τ : oT) : (mtw G Z o τ)[3 + 18 * o + (10)]? = some (ms G o 10, .inl (G.2.2 0, 8, .inl (τ 10 0))) := mt_at ho (by decide) rfl
theorem mt_A11 (G : oG) (Z : oZ) {o : Nat} (ho : o < 2) (τ : oT) : (mtw G Z o τ)[3 + 18 * o + (11)]? = some (ms G o 11, .inl (G.2.2 0, 8, .inl (τ 11 0))) := mt_at ho (by decide) rfl
theorem mt_A12 (G : oG) (Z : oZ) {o : Nat} (ho : o < 2) (τ : oT) : (mtw G Z o τ)[3 + 18 * o + (12)]? = some (ms G o 12, .inl (G.2.2 0, 8, .inl (τ 12 0))) := mt_at ho (by decide) rfl
theorem mt_A13 (G : oG) (Z : oZ) {o : Nat} (ho : o < 2) (τ : oT) : (mtw G Z o τ)[3 + 18 * o + (13)]? = some (ms G o 13, .inl (G.2.2 0, 48, .inl (τ 13 0))) := mt_at ho (by decide) rfl
theorem mt_A14 (G : oG) (Z : oZ) {o : Nat} (ho : o < 2) (τ : oT) : (mtw G Z o τ)[3 + 18 * o + (14)]? = some (ms G o 14, .inl (G.2.2 0, 48, .inl (τ 14 0))) := mt_at ho (by decide) rfl
theorem mt_A15 (G : oG) (Z : oZ) {o : Nat} (ho : o < 2) (τ : oT) : (mtw G Z o τ)[3 + 18 * o + (15)]? = some (ms G o 15, .inl (G.2.2 0, 48, .inl (τ 15 0))) := mt_at ho (by decide) rfl
theorem mt_A16 (G : oG) (Z : oZ) {o : Nat} (ho : o < 2) (τ : oT) : (mtw G Z o τ)[3 + 18 * o + (16)]? = some (ms G o 16, .inl (G.2.2 4, 8, .inl (τ 16 0))) := mt_at ho (by decide) rfl
theorem mt_A17 (G : oG) (Z : oZ) {o : Nat} (ho : o < 2) (τ : oT) : (mtw G Z o τ)[3 + 18 * o + (17)]? = some (ms G o 17, .inl (G.2.2 4, 48, .inl (τ 17 0))) := mt_at ho (by decide) rfl
theorem mt_uA1 (G : oG) (Z : oZ) {o : Nat} (ho : o < 2) (τ : oT) (j : Nat) (x : Int32) : (mtw G Z o τ).set (3 + 18 * o + (1)) (ms G o 1, .inl (G.2.2 0, 6, .inl (upd (τ 1 0) j x))) = mtw G Z o (su τ 1 0 j x) := mt_set ho (by decide) (mS_cases rfl (by simp [mS, su_row]) rfl rfl rfl rfl rfl rfl rfl rfl rfl rfl rfl rfl rfl rfl rfl rfl)
theorem mt_uA2 (G : oG) (Z : oZ) {o : Nat} (ho : o < 2) (τ : oT) (j : Nat) (x : Int32) : (mtw G Z o τ).set (3 + 18 * o + (2)) (ms G o 2, .inl (G.2.2 0, 36, .inl (upd (τ 2 0) j x))) = mtw G Z o (su τ 2 0 j x) := mt_set ho (by decide) (mS_cases rfl rfl (by simp [mS, su_row]) rfl rfl rfl rfl rfl rfl rfl rfl rfl rfl rfl rfl rfl rfl rfl)
theorem mt_uA3 (G : oG) (Z : oZ) {o : Nat} (ho : o < 2) (τ : oT) (j : Nat) (x : Int32) : (mtw G Z o τ).set (3 + 18 * o + (3)) (ms G o 3, .inl (G.2.2 0, 36, .inl (upd (τ 3 0) j x))) = mtw G Z o (su τ 3 0 j x) := mt_set ho (by decide) (mS_cases rfl rfl rfl (by simp [mS, su_row]) rfl rfl rfl rfl rfl rfl rfl rfl rfl rfl rfl rfl rfl rfl)
theorem mt_uA4 (G : oG) (Z : oZ) {o : Nat} (ho : o < 2) (τ : oT) (j : Nat) (x : Int32) : (mtw G Z o τ).set (3 + 18 * o + (4)) (ms G o 4, .inl (G.2.2 0, 6, .inl (upd (τ 4 0) j x))) = mtw G Z o (su τ 4 0 j x) := mt_set ho (by decide) (mS_cases rfl rfl rfl rfl (by simp [mS, su_row]) rfl rfl rfl rfl rfl rfl rfl rfl rfl rfl rfl rfl rfl)
theorem mt_uA5 (G : oG) (Z : oZ) {o : Nat} (ho : o < 2) (τ : oT) (j : Nat) (x : Int32) : (mtw G Z o τ).set (3 + 18 * o + (5)) (ms G o 5, .inl (G.2.2 0, 6, .inl (upd (τ 5 0) j x))) = mtw G Z o (su τ 5 0 j x) := mt_set ho (by decide) (mS_cases rfl rfl rfl rfl rfl (by simp [mS, su_row]) rfl rfl rfl rfl rfl rfl rfl rfl rfl rfl rfl rfl)
theorem mt_uA6 (G : oG) (Z : oZ) {o : Nat} (ho : o < 2) (τ : oT) (j : Nat) (x : Int32) : (mtw G Z o τ).set (3 + 18 * o + (6)) (ms G o 6, .inl (G.2.2 0, 8, .inl (upd (τ 6 0) j x))) = mtw G Z o (su τ 6 0 j x) := mt_set ho (by decide) (mS_cases rfl rfl rfl rfl rfl rfl (by simp [mS, su_row]) rfl rfl rfl rfl rfl rfl rfl rfl rfl rfl rfl)
theorem mt_uA7 (G : oG) (Z : oZ) {o : Nat} (ho : o < 2) (τ : oT) (j : Nat) (x : Int32) : (mtw G Z o τ).set (3 + 18 * o + (7)) (ms G o 7, .inl (G.2.2 0, 8, .inl (upd (τ 7 0) j x))) = mtw G Z o (su τ 7 0 j x) := mt_set ho (by decide) (mS_cases rfl rfl rfl rfl rfl rfl rfl (by simp [mS, su_row]) rfl rfl rfl rfl rfl rfl rfl rfl rfl rfl)
theorem mt_uA8 (G : oG) (Z : oZ) {o : Nat} (ho : o < 2) (τ : oT) (j : Nat) (x : Int32) : (mtw G Z o τ).set (3 + 18 * o + (8)) (ms G o 8, .inl (G.2.2 0, 8, .inl (upd (τ 8 0) j x))) = mtw G Z o (su τ 8 0 j x) := mt_set ho (by decide) (mS_cases rfl rfl rfl rfl rfl rfl rfl rfl (by simp [mS, su_row]) rfl rfl rfl rfl rfl rfl rfl rfl rfl)
theorem mt_uA9 (G : oG) (Z : oZ) {o : Nat} (ho : o < 2) (τ : oT) (j : Nat) (x : Int32) : (mtw G Z o τ).set (3 + 18 * o + (9)) (ms G o 9, .inl (G.2.2 0, 8, .inl (upd (τ 9 0) j x))) = mtw G Z o (su τ 9 0 j x) := mt_set ho (by decide) (mS_cases rfl rfl rfl rfl rfl rfl rfl rfl rfl (by simp [mS, su_row]) rfl rfl rfl rfl rfl rfl rfl rfl)
theorem mt_uA10 (G : oG) (Z : oZ) {o : Nat} (ho : o < 2) (τ : oT) (j : Nat) (x : Int32) : (mtw G Z o τ).set (3 + 18 * o + (10)) (ms G o 10, .inl (G.2.2 0, 8, .inl (upd (τ 10 0) j x))) = mtw G Z o (su τ 10 0 j x) := mt_set ho (by decide) (mS_cases rfl rfl rfl rfl rfl rfl rfl rfl rfl rfl (by simp [mS, su_row]) rfl rfl rfl rfl rfl rfl rfl)
theorem mt_uA11 (G : oG) (Z : oZ) {o : Nat} (ho : o < 2) (τ : oT) (j : Nat) (x : Int32) : (mtw G Z o τ).set (3 + 18 * o + (11)) (ms G o 11, .inl (G.2.2 0, 8, .inl (upd (τ 11 0) j x))) = mtw G Z o (su τ 11 0 j x) := mt_set ho (by decide) (mS_cases rfl rfl rfl rfl rfl rfl rfl rfl rfl rfl rfl (by simp [mS, su_row]) rfl rfl rfl rfl rfl rfl)
theorem mt_uA12 (G : oG) (Z : oZ) {o : Nat} (ho : o < 2) (τ : oT) (j : Nat) (x : Int32) : (mtw G Z o τ).set (3 + 18 * o + (12)) (ms G o 12, .inl (G.2.2 0, 8, .inl (upd (τ 12 0) j x))) = mtw G Z o (su τ 12 0 j x) := mt_set ho (by decide) (mS_cases rfl rfl rfl rfl rfl rfl rfl rfl rfl rfl rfl rfl (by simp [mS, su_row]) rfl rfl rfl rfl rfl)
theorem mt_uA13 (G : oG) (Z : oZ) {o : Nat} (ho : o < 2) (τ : oT) (j : Nat) (x : Int32) : (mtw G Z o τ).set (3 + 18 * o + (13)) (ms G o 13, .inl (G.2.2 0, 48, .inl (upd (τ 13 0) j x))) = mtw G Z o (su τ 13 0 j x) := mt_set ho (by decide) (mS_cases rfl rfl rfl rfl rfl rfl rfl rfl rfl rfl rfl rfl rfl (by simp [mS, su_row]) rfl rfl rfl rfl)
theorem mt_uA14 (G : oG) (Z : oZ) {o : Nat} (ho : o < 2) (τ : oT) (j : Nat) (x : Int32) : (mtw G Z o τ).set (3 + 18 * o + (14)) (ms G o 14, .inl (G.2.2 0, 48, .inl (upd (τ 14 0) j x))) = mtw G Z o (su τ 14 0 j x) := mt_set ho (by decide) (mS_cases rfl rfl rfl rfl rfl rfl rfl rfl rfl rfl rfl rfl rfl rfl (by simp [mS, su_row]) rfl rfl rfl)
theorem mt_uA15 (G : oG) (Z : oZ) {o : Nat} (ho : o < 2) (τ : oT) (j : Nat) (x : Int32) : (mtw G Z o τ).set (3 + 18 * o + (15)) (ms G o 15, .inl (G.2.2 0, 48, .inl (upd (τ 15 0) j x))) = mtw G Z o (su τ 15 0 j x) := mt_set ho (by decide) (mS_cases rfl rfl rfl rfl rfl rfl rfl rfl rfl rfl rfl rfl rfl rfl rfl (by simp [mS, su_row]) rfl rfl)
theorem mt_uA16 (G : oG) (Z : oZ) {o : Nat} (ho : o < 2) (τ : oT) (j : Nat) (x : Int32) : (mtw G Z o τ).set (3 + 18 * o + (16)) (ms G o 16, .inl (G.2.2 4, 8, .inl (upd (τ 16 0) j x))) = mtw G Z o (su τ 16 0 j x) := mt_set ho (by decide) (mS_cases rfl rfl rfl rfl rfl rfl rfl rfl rfl rfl rfl rfl rfl rfl rfl rfl (by simp [mS, su_row]) rfl)
theorem mt_uA17 (G : oG) (Z : oZ) {o : Nat} (ho : o < 2) (τ : oT) (j : Nat) (x : Int32) : (mtw G Z o τ).set (3 + 18 * o + (17)) (ms G o 17, .inl (G.2.2 4, 48, .inl (upd (τ 17 0) j x))) = mtw G Z o (su τ 17 0 j x) := mt_set ho (by decide) (mS_cases rfl rfl rfl rfl rfl rfl rfl rfl rfl rfl rfl rfl rfl rfl rfl rfl rfl (by simp [mS, su_row]))
theorem mt_wA1 (G : oG) (Z : oZ) {o : Nat} (ho : o < 2) (τ : oT) (x : Nat → Int32) : (mtw G Z o τ).set (3 + 18 * o + (1)) (ms G o 1, .inl (G.2.2 0, 6, .inl x)) = mtw G Z o (sw τ 1 0 x) := mt_set ho (by decide) (mS_cases rfl (by simp [mS, sw]) rfl rfl rfl rfl rfl rfl rfl rfl rfl rfl rfl rfl rfl rfl rfl rfl)
theorem mt_wA2 (G : oG) (Z : oZ) {o : Nat} (ho : o < 2) (τ : oT) (x : Nat → Int32) : (mtw G Z o τ).set (3 + 18 * o + (2)) (ms G o 2, .inl (G.2.2 0, 36, .inl x)) = mtw G Z o (sw τ 2 0 x) := mt_set ho (by decide) (mS_cases rfl rfl (by simp [mS, sw]) rfl rfl rfl rfl rfl rfl rfl rfl rfl rfl rfl rfl rfl rfl rfl)
theorem mt_wA3 (G : oG) (Z : oZ) {o : Nat} (ho : o < 2) (τ : oT) (x : Nat → Int32) : (mtw G Z o τ).set (3 + 18 * o + (3)) (ms G o 3, .inl (G.2.2 0, 36, .inl x)) = mtw G Z o (sw τ 3 0 x) := mt_set ho (by decide) (mS_cases rfl rfl rfl (by simp [mS, sw]) rfl rfl rfl rfl rfl rfl rfl rfl rfl rfl rfl rfl rfl rfl)
theorem mt_wA4 (G : oG) (Z : oZ) {o : Nat} (ho : o < 2) (τ : oT) (x : Nat → Int32) : (mtw G Z o τ).set (3 + 18 * o + (4)) (ms G o 4, .inl (G.2.2 0, 6, .inl x)) = mtw G Z o (sw τ 4 0 x) := mt_set ho (by decide) (mS_cases rfl rfl rfl rfl (by simp [mS, sw]) rfl rfl rfl rfl rfl rfl rfl rfl rfl rfl rfl rfl rfl)
theorem mt_wA5 (G : oG) (Z : oZ) {o : Nat} (ho : o < 2) (τ : oT) (x : Nat → Int32) : (mtw G Z o τ).set (3 + 18 * o + (5)) (ms G o 5, .inl (G.2.2 0, 6, .inl x)) = mtw G Z o (sw τ 5 0 x) := mt_set ho (by decide) (mS_cases rfl rfl rfl rfl rfl (by simp [mS, sw]) rfl rfl rfl rfl rfl rfl rfl rfl rfl rfl rfl rfl)
theorem mt_wA6 (G : oG) (Z : oZ) {o : Nat} (ho : o < 2) (τ : oT) (x : Nat → Int32) : (mtw G Z o τ).set (3 + 18 * o + (6)) (ms G o 6, .inl (G.2.2 0, 8, .inl x)) = mtw G Z o (sw τ 6 0 x) := mt_set ho (by decide) (mS_cases rfl rfl rfl rfl rfl rfl (by simp [mS, sw]) rfl rfl rfl rfl rfl rfl rfl rfl rfl rfl rfl)
theorem mt_wA7 (G : oG) (Z : oZ) {o : Nat} (ho : o < 2) (τ : oT) (x : Nat → Int32) : (mtw G Z o τ).set (3 + 18 * o + (7)) (ms G o 7, .inl (G.2.2 0, 8, .inl x)) = mtw G Z o (sw τ 7 0 x) := mt_set ho (by decide) (mS_cases rfl rfl rfl rfl rfl rfl rfl (by simp [mS, sw]) rfl rfl rfl rfl rfl rfl rfl rfl rfl rfl)
theorem mt_wA8 (G : oG) (Z : oZ) {o : Nat} (ho : o < 2) (τ : oT) (x : Nat → Int32) : (mtw G Z o τ).set (3 + 18 * o + (8)) (ms G o 8, .inl (G.2.2 0, 8, .inl x)) = mtw G Z o (sw τ 8 0 x) := mt_set ho (by decide) (mS_cases rfl rfl rfl rfl rfl rfl rfl rfl (by simp [mS, sw]) rfl rfl rfl rfl rfl rfl rfl rfl rfl)
theorem mt_wA9 (G : oG) (Z : oZ) {o : Nat} (ho : o < 2) (τ : oT) (x : Nat → Int32) : (mtw G Z o τ).set (3 + 18 * o + (9)) (ms G o 9, .inl (G.2.2 0, 8, .inl x)) = mtw G Z o (sw τ 9 0 x) := mt_set ho (by decide) (mS_cases rfl rfl rfl rfl rfl rfl rfl rfl rfl (by simp [mS, sw]) rfl rfl rfl rfl rfl rfl rfl rfl)
theorem mt_wA10 (G : oG) (Z : oZ) {o : Nat} (ho : o < 2) (τ : oT) (x : Nat → Int32) : (mtw G Z o τ).set (3 + 18 * o + (10)) (ms G o 10, .inl (G.2.2 0, 8, .inl x)) = mtw G Z o (sw τ 10 0 x) := mt_set ho (by decide) (mS_cases rfl rfl rfl rfl rfl rfl rfl rfl rfl rfl (by simp [mS, sw]) rfl rfl rfl rfl rfl rfl rfl)
theorem mt_wA11 (G : oG) (Z : oZ) {o : Nat} (ho : o < 2) (τ : oT) (x : Nat → Int32) : (mtw G Z o τ).set (3 + 18 * o + (11)) (ms G o 11, .inl (G.2.2 0, 8, .inl x)) = mtw G Z o (sw τ 11 0 x) := mt_set ho (by decide) (mS_cases rfl rfl rfl rfl rfl rfl rfl rfl rfl rfl rfl (by simp [mS, sw]) rfl rfl rfl rfl rfl rfl)
theorem mt_wA12 (G : oG) (Z : oZ) {o : Nat} (ho : o < 2) (τ : oT) (x : Nat → Int32) : (mtw G Z o τ).set (3 + 18 * o + (12)) (ms G o 12, .inl (G.2.2 0, 8, .inl x)) = mtw G Z o (sw τ 12 0 x) := mt_set ho (by decide) (mS_cases rfl rfl rfl rfl rfl rfl rfl rfl rfl rfl rfl rfl (by simp [mS, sw]) rfl rfl rfl rfl rfl)
theorem mt_wA13 (G : oG) (Z : oZ) {o : Nat} (ho : o < 2) (τ : oT) (x : Nat → Int32) : (mtw G Z o τ).set (3 + 18 * o + (13)) (ms G o 13, .inl (G.2.2 0, 48, .inl x)) = mtw G Z o (sw τ 13 0 x) := mt_set ho (by decide) (mS_cases rfl rfl rfl rfl rfl rfl rfl rfl rfl rfl rfl rfl rfl (by simp [mS, sw]) rfl rfl rfl rfl)
theorem mt_wA14 (G : oG) (Z : oZ) {o : Nat} (ho : o < 2) (τ : oT) (x : Nat → Int32) : (mtw G Z o τ).set (3 + 18 * o + (14)) (ms G o 14, .inl (G.2.2 0, 48, .inl x)) = mtw G Z o (sw τ 14 0 x) := mt_set ho (by decide) (mS_cases rfl rfl rfl rfl rfl rfl rfl rfl rfl rfl rfl rfl rfl rfl (by simp [mS, sw]) rfl rfl rfl)
theorem mt_wA15 (G : oG) (Z : oZ) {o : Nat} (ho : o < 2) (τ : oT) (x : Nat → Int32) : (mtw G Z o τ).set (3 + 18 * o + (15)) (ms G o 15, .inl (G.2.2 0, 48, .inl x)) = mtw G Z o (sw τ 15 0 x) := mt_set ho (by decide) (mS_cases rfl rfl rfl rfl rfl rfl rfl rfl rfl rfl rfl rfl rfl rfl rfl (by simp [mS, sw]) rfl rfl)
theorem mt_uS0 (G : oG) (Z : oZ) {o : Nat} (ho : o < 2) (τ : oT) (x : Int32) : (mtw G Z o τ).set (3 + 18 * o + (0)) (ms G o 0, .inr (7, [.int x, .int (τ 40 0 1), .ref (ms G o 1), .ref (ms G o 2), .ref (ms G o 3), .ref (ms G o 4), .ref (ms G o 5), .int (τ 40 0 2), .ref (ms G o 6), .ref (ms G o 7), .ref (ms G o 8), .ref (ms G o 9), .ref (ms G o 10), .ref (ms G o 11), .ref (ms G o 12), .ref (ms G o 13), .ref (ms G o 14), .ref (ms G o 15), .ref (ms G o 16), .ref (ms G o 17), .ref (G.2.1 0)])) = mtw G Z o (su τ 40 0 0 x) := mt_set ho (by decide) (mS_cases (by simp [mS, su]) rfl rfl rfl rfl rfl rfl rfl rfl rfl rfl rfl rfl rfl rfl rfl rfl rfl)
theorem mt_uS1 (G : oG) (Z : oZ) {o : Nat} (ho : o < 2) (τ : oT) (x : Int32) : (mtw G Z o τ).set (3 + 18 * o + (0)) (ms G o 0, .inr (7, [.int (τ 40 0 0), .int x, .ref (ms G o 1), .ref (ms G o 2), .ref (ms G o 3), .ref (ms G o 4), .ref (ms G o 5), .int (τ 40 0 2), .ref (ms G o 6), .ref (ms G o 7), .ref (ms G o 8), .ref (ms G o 9), .ref (ms G o 10), .ref (ms G o 11), .ref (ms G o 12), .ref (ms G o 13), .ref (ms G o 14), .ref (ms G o 15), .ref (ms G o 16), .ref (ms G o 17), .ref (G.2.1 0)])) = mtw G Z o (su τ 40 0 1 x) := mt_set ho (by decide) (mS_cases (by simp [mS, su]) rfl rfl rfl rfl rfl rfl rfl rfl rfl rfl rfl rfl rfl rfl rfl rfl rfl)
theorem mt_uS2 (G : oG) (Z : oZ) {o : Nat} (ho : o < 2) (τ : oT) (x : Int32) : (mtw G Z o τ).set (3 + 18 * o + (0)) (ms G o 0, .inr (7, [.int (τ 40 0 0), .int (τ 40 0 1), .ref (ms G o 1), .ref (ms G o 2), .ref (ms G o 3), .ref (ms G o 4), .ref (ms G o 5), .int x, .ref (ms G o 6), .ref (ms G o 7), .ref (ms G o 8), .ref (ms G o 9), .ref (ms G o 10), .ref (ms G o 11), .ref (ms G o 12), .ref (ms G o 13), .ref (ms G o 14), .ref (ms G o 15), .ref (ms G o 16), .ref (ms G o 17), .ref (G.2.1 0)])) = mtw G Z o (su τ 40 0 2 x) := mt_set ho (by decide) (mS_cases (by simp [mS, su]) rfl rfl rfl rfl rfl rfl rfl rfl rfl rfl rfl rfl rfl rfl rfl rfl rfl)
theorem mt_M (G : oG) (Z : oZ) {o : Nat} (ho : o < 2) (τ : oT) : (mtw G Z o τ)[0]? = some (G.2.1 0, .inr (8, [.int (Z 2 41 0 0), .ref (G.2.1 1), .ref (G.2.1 2), .int (Z 2 41 0 1), .ref (ms G 0 0), .ref (ms G 1 0)])) := wl_at (by decide) (by rw [mcc_H _ _ (by decide), setT_n _ _ (show 2 ≠ o by omega)]; rfl)
theorem mt_MP (G : oG) (Z : oZ) {o : Nat} (ho : o < 2) (τ : oT) : (mtw G Z o τ)[1]? = some (G.2.1 1, .inl (G.2.2 0, 144, .inl (Z 2 42 0))) := wl_at (by decide) (by rw [mcc_H _ _ (by decide), setT_n _ _ (show 2 ≠ o by omega)]; rfl)
theorem mt_self (G : oG) (Z : oZ) (o : Nat) : mtw G Z o (Z o) = mw G Z := by unfold mtw; rw [setT_self]
theorem mw_M (G : oG) (Z : oZ) : (mw G Z)[0]? = some (G.2.1 0, .inr (8, [.int (Z 2 41 0 0), .ref (G.2.1 1), .ref (G.2.1 2), .int (Z 2 41 0 1), .ref (ms G 0 0), .ref (ms G 1 0)])) := wl_at (by decide) (mcc_H _ _ (by decide))
theorem mw_MP (G : oG) (Z : oZ) : (mw G Z)[1]? = some (G.2.1 1, .inl (G.2.2 0, 144, .inl (Z 2 42 0))) := wl_at (by decide) (mcc_H _ _ (by decide))
theorem mw_MW (G : oG) (Z : oZ) : (mw G Z)[2]? = some (G.2.1 2, .inl (G.2.2 0, 1000, .inl (Z 2 43 0))) := wl_at (by decide) (mcc_H _ _ (by decide))
theorem mw_set {G : oG} {Z : oZ} {a : Nat} {τ' : oT} {e : va_E} (ha : a < 3) (h : ∀ b, b < 3 → mH G τ' b = if b = a then e else mH G (Z 2) b) : (mw G Z).set a (G.2.1 a, e) = mw G (setT Z 2 τ') := by
  refine wl_set (mcc_cases (fun k hk => ?_) (fun q b hq hb => ?_))
  · rw [mcc_H _ _ hk, mcc_H _ _ hk, setT_s, h k hk]
  · rw [if_neg (by omega), mcc_S _ _ _ hb, mcc_S _ _ _ hb, setT_n _ _ (show q ≠ 2 by omega)]
theorem mH_cases {P : Nat → Prop} (h0 : P 0) (h1 : P 1) (h2 : P 2) : ∀ a, a < 3 → P a := by
  intro a ha
  rcases (show a = 0 ∨ a = 1 ∨ a = 2 by omega) with rfl | rfl | rfl
  all_goals assumption
theorem mw_uM0 (G : oG) (Z : oZ) (x : Int32) : (mw G Z).set 0 (G.2.1 0, .inr (8, [.int x, .ref (G.2.1 1), .ref (G.2.1 2), .int (Z 2 41 0 1), .ref (ms G 0 0), .ref (ms G 1 0)])) = mw G (setT Z 2 (su (Z 2) 41 0 0 x)) := mw_set (by decide) (mH_cases (by simp [mH, su]) rfl rfl)
theorem mw_uM1 (G : oG) (Z : oZ) (x : Int32) : (mw G Z).set 0 (G.2.1 0, .inr (8, [.int (Z 2 41 0 0), .ref (G.2.1 1), .ref (G.2.1 2), .int x, .ref (ms G 0 0), .ref (ms G 1 0)])) = mw G (setT Z 2 (su (Z 2) 41 0 1 x)) := mw_set (by decide) (mH_cases (by simp [mH, su]) rfl rfl)
theorem mw_uMP (G : oG) (Z : oZ) (j : Nat) (x : Int32) : (mw G Z).set 1 (G.2.1 1, .inl (G.2.2 0, 144, .inl (upd (Z 2 42 0) j x))) = mw G (setT Z 2 (su (Z 2) 42 0 j x)) := mw_set (by decide) (mH_cases rfl (by simp [mH, su_row]) rfl)
theorem mw_uMW (G : oG) (Z : oZ) (j : Nat) (x : Int32) : (mw G Z).set 2 (G.2.1 2, .inl (G.2.2 0, 1000, .inl (upd (Z 2 43 0) j x))) = mw G (setT Z 2 (su (Z 2) 43 0 j x)) := mw_set (by decide) (mH_cases rfl rfl (by simp [mH, su_row]))
/-- the reference's own cells -/
def mA (G : oG) : Nat → Prop := wl_A G.2.1 39
theorem mw_D (G : oG) (Z : oZ) (hI : wl_I G.2.1 39) : va_D (mA G) (mw G Z) := wl_DA hI
theorem mt_D (G : oG) (Z : oZ) (o : Nat) (τ : oT) (hI : wl_I G.2.1 39) : va_D (mA G) (mtw G Z o τ) := wl_DA hI
