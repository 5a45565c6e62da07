/-! THE TWO MEMORIES SIDE BY SIDE: coins and complaints -/
def rA (f g : Nat → Nat → Int32) (n : Nat) : Prop := ∀ i, i < n → f i 0 = g 0 i
def rB (f g : Nat → Nat → Int32) (n : Nat) : Prop := ∀ i, i < n → ∀ u, u < 6 → f i u = g 0 (6 * i + u)
theorem rA.su {A T : oT} {a b n : Nat} (h : rA (A a) (T b) n) (i : Nat) {x y : Int32} (e : x = y) : rA (su A a i 0 x a) (su T b 0 i y b) n := by
  intro j hj
  rw [su_at, su_at, e]
  by_cases c : j = i
  · rw [if_pos ⟨c, rfl⟩, if_pos ⟨rfl, c⟩]
  · rw [if_neg (fun q => c q.1), if_neg (fun q => c q.2)]; exact h j hj
theorem rB.su {A T : oT} {a b n : Nat} (h : rB (A a) (T b) n) (i : Nat) {u : Nat} (hu : u < 6) {x y : Int32} (e : x = y) : rB (su A a i u x a) (su T b 0 (6 * i + u) y b) n := by
  intro j hj v hv
  rw [su_at, su_at, e]
  by_cases c : j = i ∧ v = u
  · rw [if_pos c, if_pos ⟨rfl, by omega⟩]
  · rw [if_neg c, if_neg (fun q => c (by omega))]; exact h j hj v hv
/-- barrels -/
def rC (α τ : oT) (n : Nat) : Prop := ∀ i, i < n → α 16 i 0 = nI (oDg (qB τ i)) ∧ ∀ p, p < oDg (qB τ i) → α 6 i p = nI (oTu (qB τ i) p)
def rV (τ : oT) (n : Nat) : Prop := ∀ i, i < n → τ 12 0 i = nI (qP τ i) ∧ oVB (qB τ i) ∧ qP τ i < oDg (qB τ i)
theorem rV_of {τ : oT} {nS nO nH : Nat} (h : qOK τ nS nO nH) : rV τ nO := fun i hi => by
  obtain ⟨-, m2, m3, m4⟩ := h.2.2.2.2.2.2.2 i hi
  exact ⟨m3, m2, m4⟩
/-- what coins rest on beside sounds -/
def rK (α τ : oT) (ps : Nat → Int32) (nS nO M : Nat) : Prop := (∀ s, s < M → ∀ h, h < 24 → α 0 s h = ps (24 * s + h)) ∧ rB (α 1) (τ 2) nS ∧ rB (α 2) (τ 3) M ∧ rB (α 7) (τ 13) nO ∧ rA (α 17) (τ 12) nO ∧ rC α τ nO ∧ rV τ nO
theorem rK_tune {α τ : oT} {ps : Nat → Int32} {nS nO M i : Nat} (h : rK α τ ps nS nO M) (hi : i < nO) : oNT α i = nI (qTu τ i) ∧ qTu τ i < 6 := by
  obtain ⟨-, -, -, -, h17, hc, hv⟩ := h
  obtain ⟨v1, v2, v3⟩ := hv i hi
  have h8 := oDg_8 v2.1
  have e : α 17 i 0 = nI (qP τ i) := (h17 i hi).trans v1
  refine ⟨?_, (oTu_lt v2 v3).1⟩
  unfold oNT
  rw [e, if_neg, nI_clamp (by omega)]
  · exact (hc i hi).2 _ v3
  · rintro (q | q)
    · exact nI_pos (by omega) q
    · rw [o_nle (show (8 : Int32) = nI 8 by decide) rfl (by decide) (by omega)] at q; omega
theorem rK_coin {α τ : oT} {ps : Nat → Int32} {nS nO M i s : Nat} (h : rK α τ ps nS nO M) (hi : i < nO) (hs : s < nS) (hS : nS ≤ M) (nH : Nat) : oCoin α i s nH = qCoin τ ps i s nH := by
  obtain ⟨t1, t2⟩ := rK_tune h hi
  obtain ⟨h0, h1, h2, h7, -, -, -⟩ := h
  unfold oCoin qCoin oPas
  rw [t1, if_neg (nI_pos (by omega)), if_pos ((o_nlt (a := qTu τ i) (b := 6) rfl (by decide) (by omega) (by decide)).mpr t2), nI_clamp (by omega), h1 s hs _ t2, h2 s (by omega) _ t2, h7 i hi _ t2, h0 s (by omega) _ (Nat.mod_lt _ (by decide))]
theorem rK.of {α τ α' τ' : oT} {ps : Nat → Int32} {nS nO M : Nat} (h : rK α τ ps nS nO M) (h0 : α' 0 = α 0) (h1 : α' 1 = α 1) (h2 : α' 2 = α 2) (h7 : α' 7 = α 7) (h17 : α' 17 = α 17) (h16 : α' 16 = α 16) (h6 : α' 6 = α 6) (k2 : τ' 2 = τ 2) (k3 : τ' 3 = τ 3) (k13 : τ' 13 = τ 13) (k12 : τ' 12 = τ 12) (k11 : τ' 11 = τ 11) : rK α' τ' ps nS nO M := by
  unfold rK rC rV qP qB at *
  rw [h0, h1, h2, h7, h17, h16, h6, k2, k3, k13, k12, k11]
  exact h
theorem oCp_k (τ : oT) (s : Nat) (y L : Int32) {a : Nat} (h : a ≠ 8) : ∀ n, oCp τ s y L n a = τ a
  | 0 => rfl
  | n + 1 => by
    have ih := oCp_k τ s y L h n
    simp only [oCp]
    split
    · exact ih
    · split
      · exact ih
      · rw [su_k _ _ _ _ h]; exact ih
theorem qL2_k (τ : oT) (s : Nat) (y w L : Int32) {a : Nat} (h : a ≠ 14) : ∀ n, qL2 τ s y w L n a = τ a
  | 0 => rfl
  | n + 1 => by
    have ih := qL2_k τ s y w L h n
    simp only [qL2]
    split
    · exact ih
    · split
      · exact ih
      · split
        · exact ih
        · rw [su_k _ _ _ _ h]; exact ih
theorem qL1_k (τ : oT) (ps : Nat → Int32) (n s nH : Nat) (y : Int32) {a : Nat} (h : a ≠ 10) (h' : a ≠ 4) : qL1 τ ps n s nH y a = τ a := by
  unfold qL1
  split
  · rfl
  · rw [su_k _ _ _ _ h', su_k _ _ _ _ h]
theorem q3s_k (τ : oT) (ps : Nat → Int32) (n s nH : Nat) {a : Nat} (h : a ≠ 10) (h' : a ≠ 4) (h'' : a ≠ 14) : ∀ k, q3s τ ps n s nH k a = τ a
  | 0 => rfl
  | k + 1 => by
    simp only [q3s, qListen]
    rw [qL2_k _ _ _ _ _ h'', qL1_k _ _ _ _ _ _ h h']
    exact q3s_k τ ps n s nH h h' h'' k
theorem oGv_k (τ : oT) (n s nH : Nat) {a : Nat} (h : a ≠ 14) (h' : a ≠ 8) : ∀ k, (oGv τ n s nH k).1 a = τ a
  | 0 => rfl
  | k + 1 => by
    have ih := oGv_k τ n s nH h h' k
    simp only [oGv]
    split
    · unfold oComplain
      dsimp only
      rw [oCp_k _ _ _ _ h']; exact ih
    · split
      · exact ih
      · dsimp only
        rw [su_k _ _ _ _ h]; exact ih
/-- complaints at a pitch -/
theorem rCp {A T : oT} {n N s : Nat} {y L : Int32} (hn : n ≤ N) (hs : s < 6) (hw : rW A T n) (h8 : rB (A 8) (T 14) N) : ∀ k, k ≤ n → rB (oCp A s y L k 8) (qL2 T s y (-2) L k 14) N
  | 0, _ => h8
  | k + 1, hk => by
    have ih := rCp hn hs hw h8 (y := y) (L := L) k (by omega)
    have hw' : rW (oCp A s y L k) (qL2 T s y (-2) L k) n := hw.of (oCp_k _ _ _ _ (by decide) _) (oCp_k _ _ _ _ (by decide) _) (oCp_k _ _ _ _ (by decide) _) (oCp_k _ _ _ _ (by decide) _) (qL2_k _ _ _ _ _ (by decide) _) (qL2_k _ _ _ _ _ (by decide) _) (qL2_k _ _ _ _ _ (by decide) _) (qL2_k _ _ _ _ _ (by decide) _)
    have e := rW_snd hw' (show k < n by omega) (nI s) y
    simp only [oCp, qL2]
    rw [e, if_neg (show ¬ ¬ True from fun q => q trivial)]
    split
    · exact ih
    · split
      · exact ih
      · exact rB.su ih k hs (by rw [ih k (by omega) s hs])
theorem qOver_congr {σ τ : oT} : ∀ n, (∀ i, i < n → σ 10 0 i = τ 10 0 i) → qOver σ n = qOver τ n
  | 0, _ => rfl
  | n + 1, h => by
    simp only [qOver]
    rw [qOver_congr n (fun i hi => h i (by omega)), h n (by omega)]
theorem qOver_k {σ τ : oT} (n : Nat) (h : σ 10 = τ 10) : qOver σ n = qOver τ n := qOver_congr n (fun i _ => by rw [h])
theorem qOver_add (T : oT) (w : Nat) (c : Int32) : ∀ n, qOver (su T 10 0 w (T 10 0 w + c)) n = if w < n then qOver T n + c else qOver T n
  | 0 => by rw [if_neg (Nat.not_lt_zero _)]; rfl
  | n + 1 => by
    have ih := qOver_add T w c n
    simp only [qOver]
    rw [ih, su_at]
    rcases Nat.lt_trichotomy w n with h | h | h
    · rw [if_pos h, if_neg (by omega), if_pos (by omega)]
      rw [Int32.add_assoc, Int32.add_assoc, Int32.add_comm c]
    · subst h
      rw [if_neg (by omega), if_pos ⟨rfl, rfl⟩, if_pos (by omega), Int32.add_assoc]
    · rw [if_neg (by omega), if_neg (by omega), if_neg (by omega)]
theorem qL1_neg {τ : oT} {ps : Nat → Int32} {n s nH : Nat} {y : Int32} (h : qHeard τ n (nI s) y < 0) : qL1 τ ps n s nH y = τ := if_pos h
theorem rGv {α τ : oT} {ps : Nat → Int32} {nS nO M N s nH : Nat} (hw : rW α τ nO) (hk : rK α τ ps nS nO M) (hn : nO ≤ N) (hN : N ≤ 8) (hs : s < nS) (hS : nS ≤ M) (hM : M ≤ 6) (h14 : rA (α 14) (τ 10) N) (h8 : rB (α 8) (τ 14) N) : ∀ k, rA ((oGv α nO s nH k).1 14) (q3s τ ps nO s nH k 10) N ∧ rB ((oGv α nO s nH k).1 8) (q3s τ ps nO s nH k 14) N ∧ (∀ r, q3s τ ps nO s nH k 4 0 r = if r = s then τ 4 0 r + (oGv α nO s nH k).2 else τ 4 0 r) ∧ qOver (q3s τ ps nO s nH k) nO = qOver τ nO + (oGv α nO s nH k).2
  | 0 => by
    refine ⟨h14, h8, fun r => ?_, (Int32.add_zero _).symm⟩
    show τ 4 0 r = if r = s then τ 4 0 r + 0 else τ 4 0 r
    rw [Int32.add_zero, ite_self]
  | k + 1 => by
    obtain ⟨i1, i2, i3, i4⟩ := rGv (nH := nH) hw hk hn hN hs hS hM h14 h8 k
    have hwk : rW (oGv α nO s nH k).1 (q3s τ ps nO s nH k) nO := hw.of (oGv_k _ _ _ _ (by decide) (by decide) _) (oGv_k _ _ _ _ (by decide) (by decide) _) (oGv_k _ _ _ _ (by decide) (by decide) _) (oGv_k _ _ _ _ (by decide) (by decide) _) (q3s_k _ _ _ _ _ (by decide) (by decide) (by decide) _) (q3s_k _ _ _ _ _ (by decide) (by decide) (by decide) _) (q3s_k _ _ _ _ _ (by decide) (by decide) (by decide) _) (q3s_k _ _ _ _ _ (by decide) (by decide) (by decide) _)
    have hkk : rK (oGv α nO s nH k).1 (q3s τ ps nO s nH k) ps nS nO M := hk.of (oGv_k _ _ _ _ (by decide) (by decide) _) (oGv_k _ _ _ _ (by decide) (by decide) _) (oGv_k _ _ _ _ (by decide) (by decide) _) (oGv_k _ _ _ _ (by decide) (by decide) _) (oGv_k _ _ _ _ (by decide) (by decide) _) (oGv_k _ _ _ _ (by decide) (by decide) _) (oGv_k _ _ _ _ (by decide) (by decide) _) (q3s_k _ _ _ _ _ (by decide) (by decide) (by decide) _) (q3s_k _ _ _ _ _ (by decide) (by decide) (by decide) _) (q3s_k _ _ _ _ _ (by decide) (by decide) (by decide) _) (q3s_k _ _ _ _ _ (by decide) (by decide) (by decide) _) (q3s_k _ _ _ _ _ (by decide) (by decide) (by decide) _)
    have eh := rW_heard hwk (by omega) (nI s) (nI k)
    have el := rW_ld hwk (nI s) (nI k) nO (Nat.le_refl _)
    simp only [oGv, q3s, qListen]
    generalize oGv α nO s nH k = P at i1 i2 i3 i4 hwk hkk eh el ⊢
    generalize q3s τ ps nO s nH k = T at i1 i2 i3 i4 hwk hkk eh el ⊢
    rw [eh]
    by_cases c1 : qHeard T nO (nI s) (nI k) = -2
    · rw [if_pos c1, qL1_neg (by rw [c1]; decide), c1]
      unfold oComplain
      rw [el]
      refine ⟨?_, rCp hn (by omega) hwk i2 nO (Nat.le_refl _), fun r => ?_, ?_⟩
      · dsimp only
        rw [oCp_k _ _ _ _ (by decide), qL2_k _ _ _ _ _ (by decide)]
        exact i1
      · rw [qL2_k _ _ _ _ _ (by decide)]; exact i3 r
      · rw [qOver_k nO (qL2_k _ _ _ _ _ (by decide) _)]; exact i4
    · rw [if_neg c1, qL2_ne c1]
      by_cases c2 : qHeard T nO (nI s) (nI k) < 0
      · rw [if_pos c2, qL1_neg c2]
        exact ⟨i1, i2, i3, i4⟩
      · obtain ⟨-, hl⟩ := qHeard_in (by omega) c2
        rw [if_neg c2]
        unfold qL1
        rw [if_neg c2]
        generalize (qHeard T nO (nI s) (nI k)).toNatClampNeg = w at hl ⊢
        rw [rK_coin hkk hl hs hS nH]
        generalize qCoin T ps w s nH = v
        refine ⟨?_, ?_, fun r => ?_, ?_⟩
        · dsimp only
          rw [su_k _ _ _ _ (show (10 : Nat) ≠ 4 by decide)]
          exact rA.su i1 w (by rw [i1 w (by omega)])
        · dsimp only
          rw [su_k _ _ _ _ (by decide), su_k _ _ _ _ (by decide), su_k _ _ _ _ (by decide)]
          exact i2
        · rw [su_at, su_k _ _ _ _ (show (4 : Nat) ≠ 10 by decide)]
          by_cases e : r = s
          · subst e
            rw [if_pos ⟨rfl, rfl⟩, if_pos rfl, i3 r, if_pos rfl, Int32.add_assoc]
          · rw [if_neg (fun q => e q.2), if_neg e, i3 r, if_neg e]
        · rw [qOver_k nO (su_k _ _ _ _ (show (10 : Nat) ≠ 4 by decide)), qOver_add, if_pos hl, i4, Int32.add_assoc]
/-- where none stands -/
theorem qStandN_0 (τ : oT) (x : Int32) : ∀ n, ∃ c, c ≤ n ∧ qStandN τ x n = nI c ∧ (c = 0 → ∀ i, i < n → qStd τ i x = false)
  | 0 => ⟨0, Nat.le_refl 0, rfl, fun _ i hi => by omega⟩
  | n + 1 => by
    obtain ⟨c, h1, h2, h3⟩ := qStandN_0 τ x n
    simp only [qStandN]
    rw [h2]
    cases h : qStd τ n x
    · refine ⟨c, by omega, Int32.add_zero _, fun h0 i hi => ?_⟩
      by_cases e : i = n
      · subst e; exact h
      · exact h3 h0 i (by omega)
    · exact ⟨c + 1, by omega, nI_1 c, fun h0 => by omega⟩
theorem qStd_snd {τ : oT} {i : Nat} {x : Int32} (h : qStd τ i x = false) (y : Int32) : qSnd τ i x y = 0 := by
  unfold qSnd
  rw [if_neg]
  intro q
  unfold qStd at h
  rw [decide_eq_true q.1, decide_eq_true q.2] at h
  exact absurd h (by decide)
theorem qHd_0 {τ : oT} {x y L : Int32} : ∀ n, (∀ i, i < n → qSnd τ i x y = 0) → qHd τ x y L n = (-1, 0)
  | 0, _ => rfl
  | n + 1, h => by
    simp only [qHd]
    rw [if_pos (Or.inl (h n (by omega)))]
    exact qHd_0 n (fun i hi => h i (by omega))
theorem qHeard_0 {τ : oT} {n : Nat} {x : Int32} (h : ∀ i, i < n → qStd τ i x = false) (y : Int32) : qHeard τ n x y = -1 := by
  unfold qHeard
  rw [qHd_0 n (fun i hi => qStd_snd (h i hi) y)]
  rfl
theorem q3s_0 {τ : oT} {ps : Nat → Int32} {n s nH : Nat} (h : ∀ i, i < n → qStd τ i (nI s) = false) : ∀ k, q3s τ ps n s nH k = τ
  | 0 => rfl
  | k + 1 => by
    simp only [q3s, qListen]
    rw [q3s_0 h k, qHeard_0 h, qL2_ne (by decide), qL1_neg (by rw [qHeard_0 h]; decide)]
theorem rGive {α τ : oT} {ps : Nat → Int32} {nS nO M N s nH : Nat} (hw : rW α τ nO) (hk : rK α τ ps nS nO M) (hn : nO ≤ N) (hN : N ≤ 8) (hs : s < nS) (hS : nS ≤ M) (hM : M ≤ 6) (h14 : rA (α 14) (τ 10) N) (h8 : rB (α 8) (τ 14) N) (h4 : rA (α 4) (τ 4) M) (h3 : oNp α s = qNp τ s) :
    rA ((oGive α nO s nH).1 14) (q3s τ ps nO s nH (qNp τ s) 10) N ∧ rB ((oGive α nO s nH).1 8) (q3s τ ps nO s nH (qNp τ s) 14) N ∧ rA ((oGive α nO s nH).1 4) (q3s τ ps nO s nH (qNp τ s) 4) M ∧ qOver (q3s τ ps nO s nH (qNp τ s)) nO = qOver τ nO + (oGive α nO s nH).2 := by
  unfold oGive
  rw [rW_stand hw (nI s) nO (Nat.le_refl _)]
  by_cases c : qStandN τ (nI s) nO = 0
  · rw [if_pos c]
    obtain ⟨m, m1, m2, m3⟩ := qStandN_0 τ (nI s) nO
    have hm : m = 0 := by
      rw [m2] at c
      exact (nI_eq (b := 0) (by omega) (by decide)).mp c
    rw [q3s_0 (m3 hm)]
    exact ⟨h14, h8, h4, (Int32.add_zero _).symm⟩
  · rw [if_neg c, h3]
    obtain ⟨i1, i2, i3, i4⟩ := rGv (nH := nH) hw hk hn hN hs hS hM h14 h8 (qNp τ s)
    refine ⟨?_, ?_, fun r hr => ?_, i4⟩
    · dsimp only
      rw [su_k _ _ _ _ (by decide)]; exact i1
    · dsimp only
      rw [su_k _ _ _ _ (by decide)]; exact i2
    · dsimp only
      rw [su_at, i3 r, oGv_k _ _ _ _ (by decide) (by decide)]
      by_cases e : r = s
      · subst e
        rw [if_pos ⟨rfl, rfl⟩, if_pos rfl, h4 r hr]
      · rw [if_neg (fun q => e q.1), if_neg e, h4 r hr]
theorem oGive_k (τ : oT) (n s nH : Nat) {a : Nat} (h : a ≠ 14) (h' : a ≠ 8) (h'' : a ≠ 4) : (oGive τ n s nH).1 a = τ a := by
  unfold oGive
  split
  · rfl
  · dsimp only
    rw [su_k _ _ _ _ h'', oGv_k _ _ _ _ h h']
theorem oP1_k (τ : oT) (n nH : Nat) {a : Nat} (h : a ≠ 14) (h' : a ≠ 8) (h'' : a ≠ 4) : ∀ s, (oP1 τ n nH s).1 a = τ a
  | 0 => rfl
  | s + 1 => by
    simp only [oP1]
    rw [oGive_k _ _ _ _ h h' h'']
    exact oP1_k τ n nH h h' h'' s
theorem q3_k (τ : oT) (ps : Nat → Int32) (n nH : Nat) {a : Nat} (h : a ≠ 10) (h' : a ≠ 4) (h'' : a ≠ 14) : ∀ s, q3 τ ps n nH s a = τ a
  | 0 => rfl
  | s + 1 => by
    simp only [q3]
    rw [q3s_k _ _ _ _ _ h h' h'']
    exact q3_k τ ps n nH h h' h'' s
theorem rP1 {α τ : oT} {ps : Nat → Int32} {nS nO M N nH : Nat} (hw : rW α τ nO) (hk : rK α τ ps nS nO M) (hn : nO ≤ N) (hN : N ≤ 8) (hS : nS ≤ M) (hM : M ≤ 6) (h14 : rA (α 14) (τ 10) N) (h8 : rB (α 8) (τ 14) N) (h4 : rA (α 4) (τ 4) M) (h3 : ∀ s, s < nS → oNp α s = qNp τ s) : ∀ s, s ≤ nS →
    rA ((oP1 α nO nH s).1 14) (q3 τ ps nO nH s 10) N ∧ rB ((oP1 α nO nH s).1 8) (q3 τ ps nO nH s 14) N ∧ rA ((oP1 α nO nH s).1 4) (q3 τ ps nO nH s 4) M ∧ qOver (q3 τ ps nO nH s) nO = qOver τ nO + (oP1 α nO nH s).2
  | 0, _ => ⟨h14, h8, h4, (Int32.add_zero _).symm⟩
  | s + 1, hs => by
    obtain ⟨i1, i2, i3, i4⟩ := rP1 (nH := nH) hw hk hn hN hS hM h14 h8 h4 h3 s (by omega)
    have hwk : rW (oP1 α nO nH s).1 (q3 τ ps nO nH s) nO := hw.of (oP1_k _ _ _ (by decide) (by decide) (by decide) _) (oP1_k _ _ _ (by decide) (by decide) (by decide) _) (oP1_k _ _ _ (by decide) (by decide) (by decide) _) (oP1_k _ _ _ (by decide) (by decide) (by decide) _) (q3_k _ _ _ _ (by decide) (by decide) (by decide) _) (q3_k _ _ _ _ (by decide) (by decide) (by decide) _) (q3_k _ _ _ _ (by decide) (by decide) (by decide) _) (q3_k _ _ _ _ (by decide) (by decide) (by decide) _)
    have hkk : rK (oP1 α nO nH s).1 (q3 τ ps nO nH s) ps nS nO M := hk.of (oP1_k _ _ _ (by decide) (by decide) (by decide) _) (oP1_k _ _ _ (by decide) (by decide) (by decide) _) (oP1_k _ _ _ (by decide) (by decide) (by decide) _) (oP1_k _ _ _ (by decide) (by decide) (by decide) _) (oP1_k _ _ _ (by decide) (by decide) (by decide) _) (oP1_k _ _ _ (by decide) (by decide) (by decide) _) (oP1_k _ _ _ (by decide) (by decide) (by decide) _) (q3_k _ _ _ _ (by decide) (by decide) (by decide) _) (q3_k _ _ _ _ (by decide) (by decide) (by decide) _) (q3_k _ _ _ _ (by decide) (by decide) (by decide) _) (q3_k _ _ _ _ (by decide) (by decide) (by decide) _) (q3_k _ _ _ _ (by decide) (by decide) (by decide) _)
    have e3 : oNp (oP1 α nO nH s).1 s = qNp (q3 τ ps nO nH s) s := by
      unfold oNp qNp
      rw [oP1_k _ _ _ (by decide) (by decide) (by decide), q3_k _ _ _ _ (by decide) (by decide) (by decide)]
      exact h3 s (by omega)
    simp only [oP1, q3]
    obtain ⟨j1, j2, j3, j4⟩ := rGive (nH := nH) hwk hkk hn hN (show s < nS by omega) hS hM i1 i2 i3 e3
    exact ⟨j1, j2, j3, by rw [j4, i4, Int32.add_assoc]⟩
