/-! THE TWO MEMORIES SIDE BY SIDE: ears, barrels, constables, ways -/
theorem rPl {α τ : oT} {ps : Nat → Int32} {nS nO M : Nat} (hw : rW α τ nO) (hk : rK α τ ps nS nO M) (x y : Int32) : ∀ k, k ≤ nO → oPlN α x y k = qPl τ x y k
  | 0, _ => rfl
  | k + 1, hk' => by
    simp only [oPlN, qPl]
    rw [rPl hw hk x y k (by omega), rW_std hw (by omega) x, (rK_tune hk (by omega)).1]
theorem oTe_k (τ : oT) (n s : Nat) {a : Nat} (h : a ≠ 2) : ∀ u, oTe τ n s u a = τ a
  | 0 => rfl
  | u + 1 => by
    simp only [oTe, oTire]
    rw [su_k _ _ _ _ h]
    exact oTe_k τ n s h u
theorem q4s_k (τ : oT) (n s : Nat) {a : Nat} (h : a ≠ 3) : ∀ u, q4s τ n s u a = τ a
  | 0 => rfl
  | u + 1 => by
    simp only [q4s, qTire]
    rw [su_k _ _ _ _ h]
    exact q4s_k τ n s h u
theorem oP2_k (τ : oT) (n : Nat) {a : Nat} (h : a ≠ 2) : ∀ s, oP2 τ n s a = τ a
  | 0 => rfl
  | s + 1 => by
    simp only [oP2]
    rw [oTe_k _ _ _ h]
    exact oP2_k τ n h s
theorem q4_k (τ : oT) (n : Nat) {a : Nat} (h : a ≠ 3) : ∀ s, q4 τ n s a = τ a
  | 0 => rfl
  | s + 1 => by
    simp only [q4]
    rw [q4s_k _ _ _ h]
    exact q4_k τ n h s
/-- the same but for weariness -/
theorem rK.of2 {α τ α' τ' : oT} {ps : Nat → Int32} {nS nO M : Nat} (h : rK α τ ps nS nO M) (h0 : α' 0 = α 0) (h1 : α' 1 = α 1) (h2 : rB (α' 2) (τ' 3) M) (h7 : α' 7 = α 7) (h17 : α' 17 = α 17) (h16 : α' 16 = α 16) (h6 : α' 6 = α 6) (k2 : τ' 2 = τ 2) (k13 : τ' 13 = τ 13) (k12 : τ' 12 = τ 12) (k11 : τ' 11 = τ 11) : rK α' τ' ps nS nO M := by
  obtain ⟨a, b, c, d⟩ := h
  refine ⟨by rw [h0]; exact a, by rw [h1, k2]; exact b, h2, ?_⟩
  unfold rC rV qP qB at *
  rw [h7, h17, h16, h6, k13, k12, k11]
  exact d
theorem rTe {α τ : oT} {ps : Nat → Int32} {nS nO M s : Nat} (hw : rW α τ nO) (hk : rK α τ ps nS nO M) (hs : s < M) : ∀ u, u ≤ 6 → rB (oTe α nO s u 2) (q4s τ nO s u 3) M
  | 0, _ => hk.2.2.1
  | u + 1, hu => by
    have ih := rTe hw hk hs u (by omega)
    have hw' : rW (oTe α nO s u) (q4s τ nO s u) nO := hw.of (oTe_k _ _ _ (by decide) _) (oTe_k _ _ _ (by decide) _) (oTe_k _ _ _ (by decide) _) (oTe_k _ _ _ (by decide) _) (q4s_k _ _ _ (by decide) _) (q4s_k _ _ _ (by decide) _) (q4s_k _ _ _ (by decide) _) (q4s_k _ _ _ (by decide) _)
    have hk' : rK (oTe α nO s u) (q4s τ nO s u) ps nS nO M := hk.of2 (oTe_k _ _ _ (by decide) _) (oTe_k _ _ _ (by decide) _) ih (oTe_k _ _ _ (by decide) _) (oTe_k _ _ _ (by decide) _) (oTe_k _ _ _ (by decide) _) (oTe_k _ _ _ (by decide) _) (q4s_k _ _ _ (by decide) _) (q4s_k _ _ _ (by decide) _) (q4s_k _ _ _ (by decide) _) (q4s_k _ _ _ (by decide) _)
    simp only [oTe, q4s, oTire, qTire]
    rw [rPl hw' hk' _ _ nO (Nat.le_refl _)]
    exact rB.su ih s (by omega) (by rw [ih s hs u (by omega)])
theorem rP2 {α τ : oT} {ps : Nat → Int32} {nS nO M : Nat} (hw : rW α τ nO) (hk : rK α τ ps nS nO M) (hS : nS ≤ M) : ∀ s, s ≤ nS → rW (oP2 α nO s) (q4 τ nO s) nO ∧ rK (oP2 α nO s) (q4 τ nO s) ps nS nO M
  | 0, _ => ⟨hw, hk⟩
  | s + 1, hs => by
    obtain ⟨hw', hk'⟩ := rP2 hw hk hS s (by omega)
    have h2 := rTe hw' hk' (show s < M by omega) 6 (Nat.le_refl _)
    simp only [oP2, q4]
    exact ⟨hw'.of (oTe_k _ _ _ (by decide) _) (oTe_k _ _ _ (by decide) _) (oTe_k _ _ _ (by decide) _) (oTe_k _ _ _ (by decide) _) (q4s_k _ _ _ (by decide) _) (q4s_k _ _ _ (by decide) _) (q4s_k _ _ _ (by decide) _) (q4s_k _ _ _ (by decide) _),
      hk'.of2 (oTe_k _ _ _ (by decide) _) (oTe_k _ _ _ (by decide) _) h2 (oTe_k _ _ _ (by decide) _) (oTe_k _ _ _ (by decide) _) (oTe_k _ _ _ (by decide) _) (oTe_k _ _ _ (by decide) _) (q4s_k _ _ _ (by decide) _) (q4s_k _ _ _ (by decide) _) (q4s_k _ _ _ (by decide) _) (q4s_k _ _ _ (by decide) _)⟩
/-! barrels -/
theorem oTurn_k (τ : oT) (i : Nat) {a : Nat} (h : a ≠ 7) (h' : a ≠ 17) : oTurn τ i a = τ a := by
  unfold oTurn oTurn1
  rw [su_k _ _ _ _ h']
  split
  · rfl
  · rw [su_k _ _ _ _ h]
theorem qTurn_k (τ : oT) (i : Nat) {a : Nat} (h : a ≠ 13) (h' : a ≠ 12) : qTurn τ i a = τ a := by
  unfold qTurn qT1
  rw [su_k _ _ _ _ h', su_k _ _ _ _ h]
theorem oTb_k (τ : oT) {a : Nat} (h : a ≠ 7) (h' : a ≠ 17) : ∀ n, oTb τ n a = τ a
  | 0 => rfl
  | n + 1 => by
    simp only [oTb]
    split
    · rw [oTurn_k _ _ h h']; exact oTb_k τ h h' n
    · exact oTb_k τ h h' n
theorem q5_k (τ : oT) {a : Nat} (h : a ≠ 13) (h' : a ≠ 12) : ∀ n, q5 τ n a = τ a
  | 0 => rfl
  | n + 1 => by
    simp only [q5]
    split
    · exact q5_k τ h h' n
    · rw [qTurn_k _ _ h h']; exact q5_k τ h h' n
theorem rTurn {α τ : oT} {ps : Nat → Int32} {nS nO nH M i : Nat} (hq : qOK τ nS nO nH) (hk : rK α τ ps nS nO M) (hi : i < nO) : rK (oTurn α i) (qTurn τ i) ps nS nO M := by
  obtain ⟨t1, t2⟩ := rK_tune hk hi
  have h12 := qTurn_12 hq hi
  have hv' := rV_of (qTurn_ok hq i hi)
  obtain ⟨h0, h1, h2, h7, h17, hc, hv⟩ := hk
  obtain ⟨v1, v2, v3⟩ := hv i hi
  have h8 := oDg_8 v2.1
  have e1 : oTurn1 α i = su α 7 i (qTu τ i) (o_min 90 (α 7 i (qTu τ i) + 1)) := by
    unfold oTurn1
    rw [t1, if_neg, nI_clamp (by omega)]
    rintro (q | q)
    · exact nI_pos (by omega) q
    · rw [o_nle (show (6 : Int32) = nI 6 by decide) rfl (by decide) (by omega)] at q; omega
  have e7 : oTurn α i 7 = su α 7 i (qTu τ i) (o_min 90 (α 7 i (qTu τ i) + 1)) 7 := by
    unfold oTurn
    rw [su_k _ _ _ _ (by decide), e1]
  have f13 : qTurn τ i 13 = su τ 13 0 (6 * i + qTu τ i) (o_min 90 (τ 13 0 (6 * i + qTu τ i) + 1)) 13 := by
    unfold qTurn
    rw [su_k _ _ _ _ (by decide)]; rfl
  have e17 : oTurn1 α i 16 i 0 = nI (oDg (qB τ i)) ∧ oTurn1 α i 17 i 0 = nI (qP τ i) ∧ oTurn1 α i 17 = α 17 := by
    rw [e1, su_k _ _ _ _ (by decide), su_k _ _ _ _ (by decide)]
    exact ⟨(hc i hi).1, (h17 i hi).trans v1, rfl⟩
  refine ⟨?_, ?_, ?_, ?_, ?_, ?_, hv'⟩
  · rw [oTurn_k _ _ (by decide) (by decide)]; exact h0
  · rw [oTurn_k _ _ (by decide) (by decide), qTurn_k _ _ (by decide) (by decide)]; exact h1
  · rw [oTurn_k _ _ (by decide) (by decide), qTurn_k _ _ (by decide) (by decide)]; exact h2
  · rw [e7, f13]
    exact rB.su h7 i t2 (by rw [h7 i hi _ t2])
  · have e := rA.su (A := oTurn1 α i) (T := qT1 τ i) (a := 17) (b := 12) (n := nO) (by rw [e17.2.2, (qT1_kp τ i).2.2.1]; exact h17) i (x := if oTurn1 α i 16 i 0 ≤ oTurn1 α i 17 i 0 + 1 then 0 else oTurn1 α i 17 i 0 + 1) (y := o_rem (qT1 τ i 12 0 i + 1) (nI (oDg (qB (qT1 τ i) i)))) (by
      rw [h12, e17.1, e17.2.1, nI_1]
      by_cases c : oDg (qB τ i) ≤ qP τ i + 1
      · rw [if_pos (nI_le c (by omega)), show qP τ i + 1 = oDg (qB τ i) by omega, Nat.mod_self]; rfl
      · rw [if_neg (by rw [nI_leI (by omega) (by omega)]; exact c), Nat.mod_eq_of_lt (by omega)])
    exact e
  · intro j hj
    have eB : qB (qTurn τ i) j = qB τ j := by unfold qB; rw [qTurn_k _ _ (by decide) (by decide)]
    rw [eB, oTurn_k _ _ (by decide) (by decide), oTurn_k _ _ (by decide) (by decide)]
    exact hc j hj
/-- who was on its way at the hour's beginning -/
def rWent (τ : oT) (n : Nat) : Prop := ∀ i, i < n → (τ 16 0 i = 0 ↔ τ 8 0 i = 0)
theorem rP3 {α τ : oT} {ps : Nat → Int32} {nS nO nH M : Nat} (hq : qOK τ nS nO nH) (hw : rW α τ nO) (hg : rWent τ nO) (hk : rK α τ ps nS nO M) : ∀ i, i ≤ nO → rK (oTb α i) (q5 τ i) ps nS nO M
  | 0, _ => hk
  | i + 1, hi => by
    have ih := rP3 hq hw hg hk i (by omega)
    have e : oTb α i 12 i 0 = 0 ↔ q5 τ i 16 0 i = 0 := by
      rw [oTb_k _ (by decide) (by decide), q5_k _ (by decide) (by decide)]
      exact ((hw i (by omega)).2.2.1).trans (hg i (by omega)).symm
    simp only [oTb, q5]
    by_cases c : oTb α i 12 i 0 = 0
    · rw [if_pos c, if_neg (fun q => q (e.mp c))]
      exact rTurn (q5_ok hq i (by omega)) ih (by omega)
    · rw [if_neg c, if_pos (fun q => c (e.mpr q))]
      exact ih
/-! constables -/
/-- an organ's way within the hour: on its way since before, or it stands, or it has just been sent away -/
def rY (α τ : oT) (n : Nat) : Prop := ∀ i, i < n → (¬ τ 16 0 i = 0 ∧ α 12 i 0 = τ 8 0 i ∧ 0 < τ 8 0 i) ∨ (τ 16 0 i = 0 ∧ ((α 12 i 0 = 0 ∧ τ 8 0 i = 0) ∨ (α 12 i 0 = 3 ∧ τ 8 0 i = 2)))
/-- a banishment within the hour: of before, or new -/
def rN (α τ : oT) (n : Nat) : Prop := ∀ i, i < n → ∀ r, r < 6 → (τ 17 0 (6 * i + r) = 0 ∧ α 9 i r = τ 15 0 (6 * i + r)) ∨ (¬ τ 17 0 (6 * i + r) = 0 ∧ α 9 i r = 25 ∧ τ 15 0 (6 * i + r) = 24)
/-- what constables look at and change -/
def rM (α τ : oT) (nO M N : Nat) : Prop := rA (α 10) (τ 6) nO ∧ rA (α 11) (τ 7) nO ∧ rA (α 13) (τ 9) nO ∧ rB (α 8) (τ 14) N ∧ rA (α 5) (τ 5) M ∧ rY α τ nO ∧ rN α τ N
theorem rY_0 {α τ : oT} {n i : Nat} (h : rY α τ n) (hi : i < n) : α 12 i 0 = 0 ↔ τ 8 0 i = 0 := by
  rcases h i hi with ⟨-, h2, -⟩ | ⟨-, ⟨h2, h3⟩ | ⟨h2, h3⟩⟩
  · rw [h2]
  · rw [h2, h3]
  · rw [h2, h3]; decide
theorem rM.w {α τ : oT} {nO M N : Nat} (h : rM α τ nO M N) : rW α τ nO := fun i hi => ⟨h.1 i hi, h.2.1 i hi, rY_0 h.2.2.2.2.2.1 hi, h.2.2.1 i hi⟩
theorem rN_0 {α τ : oT} {n i r : Nat} (h : rN α τ n) (hi : i < n) (hr : r < 6) : α 9 i r = 0 ↔ τ 15 0 (6 * i + r) = 0 := by
  rcases h i hi r hr with ⟨-, h2⟩ | ⟨-, h2, h3⟩
  · rw [h2]
  · rw [h2, h3]; decide
/-- the sum of complaints in a street -/
theorem qCo_6 (τ : oT) (s : Nat) (hs : s < 6) (n : Nat) : ∀ u, u ≤ 6 → n < 1000 → qCo τ (nI s) (-1) (6 * n + u) = if s < u then qCo τ (nI s) (-1) (6 * n) + τ 14 0 (6 * n + s) else qCo τ (nI s) (-1) (6 * n)
  | 0, _, _ => by rw [if_neg (Nat.not_lt_zero _)]; rfl
  | u + 1, hu, hn => by
    have ih := qCo_6 τ s hs n u (by omega) hn
    show qCo τ (nI s) (-1) ((6 * n + u) + 1) = _
    simp only [qCo]
    have er : o_rem (nI (6 * n + u)) 6 = nI u := by
      rw [o_rem_n (a := 6 * n + u) (d := 6) rfl (by decide) (by omega) (by decide) (by decide)]
      congr 1; omega
    rw [er, ih]
    have e0 : ¬ nI s = -1 := fun q => by
      have := nI_pos (n := s) (by omega)
      rw [q] at this; exact this (by decide)
    by_cases c : u = s
    · subst c
      rw [if_pos ⟨Or.inr rfl, Or.inl trivial⟩, if_neg (by omega), if_pos (by omega)]
    · rw [if_neg]
      · by_cases d : s < u
        · rw [if_pos d, if_pos (by omega)]
        · rw [if_neg d, if_neg (by omega)]
      · rintro ⟨q1 | q1, -⟩
        · exact e0 q1
        · exact c ((nI_eq (by omega) (by omega)).mp q1)
theorem rComp {α τ : oT} {N s : Nat} (hs : s < 6) (h : rB (α 8) (τ 14) N) : ∀ n, n ≤ N → n < 1000 → oComplN α s n = qCo τ (nI s) (-1) (n * 6)
  | 0, _, _ => rfl
  | n + 1, h1, h2 => by
    have ih := rComp hs h n (by omega) (by omega)
    simp only [oComplN]
    rw [show (n + 1) * 6 = 6 * n + 6 by omega, qCo_6 τ s hs n 6 (by omega) (by omega), if_pos hs, ih, show n * 6 = 6 * n by omega, h n (by omega) s hs]
theorem rWo {α τ : oT} {N s : Nat} (hs : s < 6) (h : rB (α 8) (τ 14) N) : ∀ n, n < N → oWo α s n = qWo τ s n
  | 0, _ => rfl
  | n + 1, hn => by
    have ih := rWo hs h n (by omega)
    simp only [oWo, qWo]
    have h1 := qWo_le τ s n
    rw [ih, h (n + 1) hn s hs, h (qWo τ s n) (by omega) s hs]
theorem oZc_k (τ : oT) (s : Nat) {a : Nat} (h : a ≠ 8) : ∀ n, oZc τ s n a = τ a
  | 0 => rfl
  | n + 1 => by
    simp only [oZc]
    rw [su_k _ _ _ _ h]; exact oZc_k τ s h n
theorem qZc_k (τ : oT) (s : Nat) {a : Nat} (h : a ≠ 14) : ∀ n, qZc τ s n a = τ a
  | 0 => rfl
  | n + 1 => by
    simp only [qZc]
    rw [su_k _ _ _ _ h]; exact qZc_k τ s h n
theorem rZc {α τ : oT} {N s : Nat} (hs : s < 6) (h : rB (α 8) (τ 14) N) : ∀ n, rB (oZc α s n 8) (qZc τ s n 14) N
  | 0 => h
  | n + 1 => by
    simp only [oZc, qZc]
    exact rB.su (rZc hs h n) n hs rfl
/-- where it goes to -/
theorem rRf {α τ : oT} {w s nS : Nat} (h : ∀ r, r < nS → (α 9 w r = 0 ↔ τ 15 0 (6 * w + r) = 0)) (hS : 0 < nS) : ∀ d, d < nS → oRf α w s nS (nS - d) d = qTo τ w s nS d
  | 0, _ => rfl
  | d + 1, hd => by
    have ih := rRf (s := s) h hS d (by omega)
    simp only [oRf, qTo]
    have hm := Nat.mod_lt (s + (nS - (d + 1))) hS
    have e := h _ hm
    rw [show nS - (d + 1) + 1 = nS - d by omega, ih, show nS - 1 - d = nS - (d + 1) by omega]
    by_cases c : α 9 w ((s + (nS - (d + 1))) % nS) = 0
    · rw [if_pos c, if_pos (e.mp c)]
    · rw [if_neg c, if_neg (fun q => c (e.mpr q))]
