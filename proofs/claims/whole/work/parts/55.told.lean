/-! THE TWO MEMORIES SIDE BY SIDE: hours gone by, and what is told -/
/-- no complaints in a street that isn't there -/
def rE (τ : oT) (nS : Nat) : Prop := ∀ i, i < 8 → ∀ r, nS ≤ r → r < 6 → τ 14 0 (6 * i + r) = 0
theorem qL2_14z {T : oT} {s : Nat} {y w L : Int32} {i r : Nat} (hs : s < 6) (h : s < r) (hr : r < 6) : ∀ k, qL2 T s y w L k 14 0 (6 * i + r) = T 14 0 (6 * i + r)
  | 0 => rfl
  | k + 1 => by
    have ih := qL2_14z (T := T) (y := y) (w := w) (L := L) (i := i) hs h hr k
    simp only [qL2]
    split
    · exact ih
    · split
      · exact ih
      · split
        · exact ih
        · rw [su_at, if_neg (fun q => by have := q.2; omega)]; exact ih
theorem q3s_14z {T : oT} {ps : Nat → Int32} {n s nH i r : Nat} (hs : s < 6) (h : s < r) (hr : r < 6) : ∀ k, q3s T ps n s nH k 14 0 (6 * i + r) = T 14 0 (6 * i + r)
  | 0 => rfl
  | k + 1 => by
    simp only [q3s, qListen]
    rw [qL2_14z hs h hr, qL1_k _ _ _ _ _ _ (by decide) (by decide)]
    exact q3s_14z hs h hr k
theorem q3_14z {T : oT} {ps : Nat → Int32} {n nH nS i r : Nat} (hS : nS ≤ 6) (h : nS ≤ r) (hr : r < 6) : ∀ s, s ≤ nS → q3 T ps n nH s 14 0 (6 * i + r) = T 14 0 (6 * i + r)
  | 0, _ => rfl
  | s + 1, hs => by
    simp only [q3]
    rw [q3s_14z (by omega) (by omega) hr]
    exact q3_14z hS h hr s (by omega)
theorem qZc_14z {T : oT} {s i r : Nat} (hs : s < 6) (h : s < r) (hr : r < 6) : ∀ n, qZc T s n 14 0 (6 * i + r) = T 14 0 (6 * i + r)
  | 0 => rfl
  | n + 1 => by
    simp only [qZc]
    rw [su_at, if_neg (fun q => by have := q.2; omega)]
    exact qZc_14z hs h hr n
theorem qSweep_14 (τ : oT) (nS nO s : Nat) : qSweep τ nS nO s 14 = qS2 τ nO s 14 := by
  unfold qSweep
  split
  · rfl
  · split
    · rfl
    · rw [su_k _ _ _ _ (by decide), su_k _ _ _ _ (by decide), su_k _ _ _ _ (by decide)]
theorem q6_14z {T : oT} {nS nO i r : Nat} (hS : nS ≤ 6) (h : nS ≤ r) (hr : r < 6) : ∀ s, s ≤ nS → q6 T nS nO s 14 0 (6 * i + r) = T 14 0 (6 * i + r)
  | 0, _ => rfl
  | s + 1, hs => by
    have ih := q6_14z (T := T) (nO := nO) (i := i) hS h hr s (by omega)
    simp only [q6]
    split
    · exact ih
    · rw [qSweep_14]
      unfold qS2
      rw [qZc_14z (by omega) (by omega) hr, qS1_k _ _ _ (by decide) (by decide) (by decide)]
      exact ih
theorem qHour_e {τ : oT} {ps : Nat → Int32} {nS nO nH : Nat} (hS : nS ≤ 6) (h : rE τ nS) : rE (qHour τ ps nS nO nH) nS := by
  intro i hi r h1 h2
  unfold qHour qH8 qH6
  rw [su_k _ _ _ _ (by decide), q8_k _ (by decide), q7_k _ (by decide), q6_14z hS h1 h2 nS (Nat.le_refl _)]
  unfold qH5 qH4
  rw [q5_k _ (by decide) (by decide), q4_k _ _ (by decide)]
  unfold qH3
  rw [q3_14z hS h1 h2 nS (Nat.le_refl _), qH2_k _ _ (by decide) (by decide)]
  exact h i hi r h1 h2
/-- all that holds of the two memories -/
def rL (α τ : oT) (ps : Nat → Int32) (nS nO nH M N C : Nat) : Prop := qOK τ nS nO nH ∧ rR α τ ps nS nO M N ∧ rD τ ps C nS ∧ rZ τ nO ∧ rE τ nS ∧ nS ≤ M ∧ M ≤ 6 ∧ nO ≤ N ∧ N ≤ 8
theorem rL.hour {α τ : oT} {ps : Nat → Int32} {nS nO nH M N C : Nat} (h : rL α τ ps nS nO nH M N C) (hH : nH + 1 < 1000000) : rL (oHour α nS nO nH) (qHour τ ps nS nO nH) ps nS nO (nH + 1) M N (C + 10680) ∧ oHourN α nS nO nH = qOver (qHour τ ps nS nO nH) nO - qOver τ nO := by
  obtain ⟨hq, hr, hd, hz, he, h1, h2, h3, h4⟩ := h
  obtain ⟨a, b⟩ := rHour h1 h2 h3 h4 hq hr hd hz
  exact ⟨⟨qHour_ok hq hH, a, rHourD (by omega) (by omega) hq hd, qHour_z (by omega) hq hz, qHour_e (by omega) he, h1, h2, h3, h4⟩, b⟩
theorem rL.hours {α τ : oT} {ps : Nat → Int32} {nS nO nH M N C : Nat} (h : rL α τ ps nS nO nH M N C) : ∀ k, nH + k < 1000000 → rL (oPn α nS nO nH k) (qPn τ ps nS nO nH k) ps nS nO (nH + k) M N (C + 10680 * k) ∧ oPs α nS nO nH k = qPs τ ps nS nO nH k
  | 0, _ => ⟨h, rfl⟩
  | k + 1, hk => by
    obtain ⟨a, b⟩ := h.hours k (by omega)
    obtain ⟨c, d⟩ := a.hour (by omega)
    refine ⟨?_, ?_⟩
    · rw [show C + 10680 * (k + 1) = C + 10680 * k + 10680 by omega]
      exact c
    · simp only [oPs, qPs]
      rw [b, d]
      rfl
/-! streets -/
theorem rSFact {α τ δ : oT} {nS nO nH M N C s w : Nat} (h : rL α τ (δ 42 0) nS nO nH M N C) (hs : s < nS) : oSFact α nO nH s w = qStT τ δ nO nH s w := by
  obtain ⟨-, hr, -, -, -, h1, h2, h3, h4⟩ := h
  have hw := hr.w
  have e3 := hr.np hs
  obtain ⟨⟨p0, -⟩, -, -, -, -, -, c8, -, c4, c5, c3, -⟩ := hr
  unfold oSFact qStT
  match w with
  | 0 => exact c3 s hs
  | 1 => exact p0 s (by omega) _ (Nat.mod_lt _ (by decide))
  | 2 => exact rW_stand hw _ nO (Nat.le_refl _)
  | 3 => exact rComp (by omega) c8 nO h3 (by omega)
  | 4 => exact c4 s (by omega)
  | 5 => exact c5 s (by omega)
  | 6 =>
    show oDrownN α nO (nI s) (oNp α s) = qWith τ nO (nI s) true (qNp τ s)
    rw [e3]; exact rW_drown hw (by omega) _ _
  | (n + 7) =>
    show oHeardN α nO (nI s) (oNp α s) = qWith τ nO (nI s) false (qNp τ s)
    rw [e3]; exact rW_heardN hw (by omega) _ _
/-! organs -/
theorem qCo_o (τ : oT) (i n : Nat) (hi : i < 1000) (hn : n < 1000) : ∀ u, u ≤ 6 → qCo τ (-1) (nI i) (6 * n + u) = if n = i then qCo τ (-1) (nI i) (6 * n) + (qCo τ (-1) (nI i) (6 * n + u) - qCo τ (-1) (nI i) (6 * n)) else qCo τ (-1) (nI i) (6 * n)
  | 0, _ => by
    by_cases c : n = i
    · rw [if_pos c, Int32.add_comm, Int32.sub_add_cancel]
    · rw [if_neg c]; rfl
  | u + 1, hu => by
    by_cases c : n = i
    · rw [if_pos c, Int32.add_comm, Int32.sub_add_cancel]
    · have ih := qCo_o τ i n hi hn u (by omega)
      rw [if_neg c] at ih ⊢
      show qCo τ (-1) (nI i) ((6 * n + u) + 1) = _
      simp only [qCo]
      rw [if_neg, ih]
      rintro ⟨-, q | q⟩
      · exact nI_pos (n := i) (by omega) (by rw [q]; decide)
      · rw [o_div_n (a := 6 * n + u) (d := 6) rfl (by decide) (by omega) (by decide) (by decide)] at q
        have := (nI_eq (by omega) (by omega)).mp q
        omega
theorem qCo_i {α τ : oT} {N i : Nat} (hi : i < N) (hN : N ≤ 8) (h : rB (α 8) (τ 14) N) : ∀ u, u ≤ 6 → qCo τ (-1) (nI i) (6 * i + u) = qCo τ (-1) (nI i) (6 * i) + oCA α i u
  | 0, _ => (Int32.add_zero _).symm
  | u + 1, hu => by
    have ih := qCo_i hi hN h u (by omega)
    show qCo τ (-1) (nI i) ((6 * i + u) + 1) = _
    have e : nI (6 * i + u) / 6 = nI i := by
      rw [o_div_n (a := 6 * i + u) (d := 6) rfl (by decide) (by omega) (by decide) (by decide)]
      congr 1; omega
    simp only [qCo, oCA]
    rw [if_pos ⟨Or.inl trivial, Or.inr e⟩, ih, h i hi u (by omega), Int32.add_assoc]
theorem qCo_n {α τ : oT} {N i : Nat} (hi : i < N) (hN : N ≤ 8) (h : rB (α 8) (τ 14) N) : ∀ n, n ≤ N → qCo τ (-1) (nI i) (6 * n) = if i < n then oCA α i 6 else 0
  | 0, _ => by rw [if_neg (Nat.not_lt_zero _)]; rfl
  | n + 1, hn => by
    have ih := qCo_n hi hN h n (by omega)
    show qCo τ (-1) (nI i) (6 * n + 6) = _
    by_cases c : n = i
    · subst c
      rw [qCo_i hi hN h 6 (Nat.le_refl _), ih, if_neg (Nat.lt_irrefl _), if_pos (by omega), Int32.zero_add]
    · rw [qCo_o τ i n (by omega) (by omega) 6 (Nat.le_refl _), if_neg c, ih]
      by_cases d : i < n
      · rw [if_pos d, if_pos (by omega)]
      · rw [if_neg d, if_neg (by omega)]
theorem rBS {α τ : oT} {N i : Nat} (hi : i < N) (h : rB (α 9) (τ 15) N) : ∀ k, k ≤ 6 → oBS α i k = qBS τ i k
  | 0, _ => rfl
  | k + 1, hk => by
    have ih := rBS hi h k (by omega)
    simp only [oBS, qBS]
    rw [ih, h i hi k (by omega)]
    by_cases c : τ 15 0 (6 * i + k) ≤ 0
    · rw [if_pos c, decide_eq_true c]; exact (Int32.add_zero _).symm
    · rw [if_neg c, decide_eq_false c]; rfl
theorem qBS_z {τ : oT} {i nS : Nat} (h : ∀ r, nS ≤ r → r < 6 → τ 15 0 (6 * i + r) = 0) : ∀ d, nS + d ≤ 6 → qBS τ i (nS + d) = qBS τ i nS
  | 0, _ => rfl
  | d + 1, hd => by
    have ih := qBS_z h d (by omega)
    show qBS τ i (nS + d + 1) = _
    simp only [qBS]
    rw [h (nS + d) (by omega) (by omega), ih]
    exact Int32.add_zero _
theorem rFact {α τ : oT} {ps : Nat → Int32} {nS nO nH M N C i w : Nat} (h : rL α τ ps nS nO nH M N C) (hi : i < nO) : oFact α i w = mOT τ nS nO i w := by
  obtain ⟨-, hr, hd, -, -, h1, h2, h3, h4⟩ := h
  obtain ⟨hk, c10, c11, c12, c13, c14, c8, c9, -, -, -, c15⟩ := hr
  obtain ⟨t1, t2⟩ := rK_tune hk hi
  unfold oFact mOT
  match w with
  | 0 => exact c10 i hi
  | 1 => exact c11 i hi
  | 2 => exact c12 i hi
  | 3 => exact c13 i hi
  | 4 => exact c14 i (by omega)
  | 5 => exact c15 i hi
  | 6 => exact hk.2.2.2.2.1 i hi
  | 7 => exact t1
  | 8 =>
    show oNW α i = τ 13 0 (6 * i + qTu τ i)
    unfold oNW
    rw [t1, if_neg, nI_clamp (by omega)]
    · exact hk.2.2.2.1 i hi _ t2
    · rintro (q | q)
      · exact nI_pos (by omega) q
      · rw [o_nle (show (6 : Int32) = nI 6 by decide) rfl (by decide) (by omega)] at q; omega
  | 9 =>
    show oCA α i 6 = qCo τ (-1) (nI i) (nO * 6)
    rw [show nO * 6 = 6 * nO by omega, qCo_n (show i < N by omega) h4 c8 nO h3, if_pos hi]
  | (n + 10) =>
    show oBS α i 6 = qBS τ i nS
    rw [rBS (show i < N by omega) c9 6 (Nat.le_refl _), ← qBS_z (fun r q1 q2 => hd.2.2.2.2.2.2.2.2 i (by omega) r q1 q2) (6 - nS) (by omega), show nS + (6 - nS) = 6 by omega]
/-! the town's numbers -/
def qStandA (τ : oT) (nO : Nat) : Nat → Int32
  | 0 => 0
  | s + 1 => qStandA τ nO s + qStandN τ (nI s) nO
def qBanA (τ : oT) (nS : Nat) : Nat → Int32
  | 0 => 0
  | i + 1 => qBanA τ nS i + qBS τ i nS
def mCnt (τ δ : oT) (nS nO w : Nat) : Int32 := match w with
  | 0 => τ 40 0 0
  | 1 => τ 40 0 1
  | 2 => τ 40 0 2
  | 3 => qStandA τ nO nS
  | 4 => qOver τ nO
  | 5 => qCo τ (-1) (-1) (nO * 6)
  | 6 => qBanA τ nS nO
  | _ => δ 41 0 1
theorem mCnt_T (τ δ : oT) (nS nO w : Nat) (x : Int32) : mCnt τ (su δ 41 0 0 x) nS nO w = mCnt τ δ nS nO w := by
  unfold mCnt
  match w with
  | 0 => rfl
  | 1 => rfl
  | 2 => rfl
  | 3 => rfl
  | 4 => rfl
  | 5 => rfl
  | 6 => rfl
  | (n + 7) => rfl
theorem rStandA {α τ : oT} {nO : Nat} (hw : rW α τ nO) : ∀ s, oStandA α nO s = qStandA τ nO s
  | 0 => rfl
  | s + 1 => by
    simp only [oStandA, qStandA]
    rw [rStandA hw s, rW_stand hw _ nO (Nat.le_refl _)]
theorem rCoinsA {α τ : oT} {N : Nat} (h : rA (α 14) (τ 10) N) : ∀ n, n ≤ N → oCoinsA α n = qOver τ n
  | 0, _ => rfl
  | n + 1, hn => by
    simp only [oCoinsA, qOver]
    rw [rCoinsA h n (by omega), h n (by omega)]
/-- the sum of an organ's complaints in the first streets -/
theorem oComplA_s (α : oT) (n : Nat) : ∀ s, oComplA α (n + 1) s = oComplA α n s + oCA α n s
  | 0 => rfl
  | s + 1 => by
    simp only [oComplA, oCA, oComplN]
    rw [oComplA_s α n s]
    rw [Int32.add_assoc, Int32.add_assoc, Int32.add_comm (oCA α n s), Int32.add_assoc, Int32.add_comm (α 8 n s)]
theorem oComplA_0 (α : oT) : ∀ s, oComplA α 0 s = 0
  | 0 => rfl
  | s + 1 => by
    simp only [oComplA, oComplN]
    rw [oComplA_0 α s]; rfl
theorem oCA_z {α : oT} {i nS : Nat} (h : ∀ r, nS ≤ r → r < 6 → α 8 i r = 0) : ∀ d, nS + d ≤ 6 → oCA α i (nS + d) = oCA α i nS
  | 0, _ => rfl
  | d + 1, hd => by
    show oCA α i (nS + d + 1) = _
    simp only [oCA]
    rw [h (nS + d) (by omega) (by omega), oCA_z h d (by omega), Int32.add_zero]
theorem qCo_a {α τ : oT} {N n : Nat} (hn : n < N) (h : rB (α 8) (τ 14) N) : ∀ u, u ≤ 6 → qCo τ (-1) (-1) (6 * n + u) = qCo τ (-1) (-1) (6 * n) + oCA α n u
  | 0, _ => (Int32.add_zero _).symm
  | u + 1, hu => by
    have ih := qCo_a hn h u (by omega)
    show qCo τ (-1) (-1) ((6 * n + u) + 1) = _
    simp only [qCo, oCA]
    rw [if_pos ⟨Or.inl trivial, Or.inl trivial⟩, ih, h n hn u (by omega), Int32.add_assoc]
theorem rComplA {α τ : oT} {N nS : Nat} (hS : nS ≤ 6) (hN : N ≤ 8) (h : rB (α 8) (τ 14) N) (hz : rE τ nS) : ∀ n, n ≤ N → oComplA α n nS = qCo τ (-1) (-1) (6 * n)
  | 0, _ => oComplA_0 α nS
  | n + 1, hn => by
    show _ = qCo τ (-1) (-1) (6 * n + 6)
    rw [oComplA_s, rComplA hS hN h hz n (by omega), qCo_a (show n < N by omega) h 6 (Nat.le_refl _)]
    congr 1
    have e := oCA_z (α := α) (i := n) (nS := nS) (fun r q1 q2 => by rw [h n (by omega) r q2]; exact hz n (by omega) r q1 q2) (6 - nS) (by omega)
    rw [show nS + (6 - nS) = 6 by omega] at e
    exact e.symm
theorem rBanA {α τ : oT} {N nS : Nat} (hS : nS ≤ 6) (hN : N ≤ 8) (h : rB (α 9) (τ 15) N) (hz : ∀ i, i < 8 → ∀ r, nS ≤ r → r < 6 → τ 15 0 (6 * i + r) = 0) : ∀ n, n ≤ N → oBanA α n = qBanA τ nS n
  | 0, _ => rfl
  | n + 1, hn => by
    simp only [oBanA, qBanA]
    rw [rBanA hS hN h hz n (by omega), rBS (show n < N by omega) h 6 (Nat.le_refl _), ← qBS_z (fun r q1 q2 => hz n (by omega) r q1 q2) (6 - nS) (by omega), show nS + (6 - nS) = 6 by omega]
/-- the two papers -/
def rPp (γ δ : oT) : Prop := pOK γ ∧ δ 41 0 1 = γ 0 0 0 ∧ ∀ j, j < oN (γ 0 0 0) → γ 1 0 j = δ 43 0 j
theorem rCnt {α γ τ δ : oT} {ps : Nat → Int32} {nS nO nH M N C w : Nat} (ho : oOK α nS nO nH) (h : rL α τ ps nS nO nH M N C) (hp : rPp γ δ) (hw : w < 8) : kCnt α γ nS nO w = mCnt τ δ nS nO w := by
  obtain ⟨hq, hr, hd, -, he, h1, h2, h3, h4⟩ := h
  have hW := hr.w
  obtain ⟨hk, c10, c11, c12, c13, c14, c8, c9, -, -, -, c15⟩ := hr
  unfold kCnt
  match w, hw with
  | 0, _ => rw [if_neg (by decide)]; exact ho.2.2.2.2.1.trans hq.2.2.2.2.1.symm
  | 1, _ => rw [if_neg (by decide)]; exact ho.1.trans hq.1.symm
  | 2, _ => rw [if_neg (by decide)]; exact ho.2.2.1.trans hq.2.2.1.symm
  | 3, _ => rw [if_neg (by decide)]; exact rStandA hW nS
  | 4, _ => rw [if_neg (by decide)]; exact rCoinsA c14 nO h3
  | 5, _ =>
    rw [if_neg (by decide)]
    show oComplA α nO nS = qCo τ (-1) (-1) (nO * 6)
    rw [show nO * 6 = 6 * nO by omega]
    exact rComplA (by omega) h4 c8 he nO h3
  | 6, _ => rw [if_neg (by decide)]; exact rBanA (by omega) h4 c9 hd.2.2.2.2.2.2.2.2 nO h3
  | 7, _ => rw [if_pos rfl]; exact hp.2.1.symm
  | (n + 8), hw => omega
/-! the checksum -/
def mS1 (τ δ : oT) (nO nH r : Nat) (d : Int64) : Nat → Int64
  | 0 => d
  | k + 1 => kMix (mS1 τ δ nO nH r d k) (qStT τ δ nO nH r k)
def mS2 (τ : oT) (r : Nat) (d : Int64) : Nat → Int64
  | 0 => d
  | k + 1 => kMix (kMix (mS2 τ r d k) (τ 2 0 (6 * r + k))) (τ 3 0 (6 * r + k))
def mO1 (τ : oT) (nS nO i : Nat) (d : Int64) : Nat → Int64
  | 0 => d
  | k + 1 => kMix (mO1 τ nS nO i d k) (mOT τ nS nO i k)
def mO2 (τ : oT) (i : Nat) (d : Int64) : Nat → Int64
  | 0 => d
  | k + 1 => kMix (mO2 τ i d k) (τ 15 0 (6 * i + k))
def mD1 (τ δ : oT) (nS nO : Nat) : Nat → Int64
  | 0 => 587
  | k + 1 => kMix (mD1 τ δ nS nO k) (mCnt τ δ nS nO k)
def mD2 (τ δ : oT) (nO nH : Nat) (d : Int64) : Nat → Int64
  | 0 => d
  | k + 1 => mS2 τ k (mS1 τ δ nO nH k (mD2 τ δ nO nH d k) 8) 6
def mD3 (τ : oT) (nS nO : Nat) (d : Int64) : Nat → Int64
  | 0 => d
  | k + 1 => mO2 τ k (mO1 τ nS nO k (mD3 τ nS nO d k) 11) nS
def mD4 (δ : oT) (d : Int64) : Nat → Int64
  | 0 => d
  | k + 1 => kMix (mD4 δ d k) (δ 43 0 k)
def mDig (τ δ : oT) (nS nO nH nP : Nat) : Int64 := mD4 δ (mD3 τ nS nO (mD2 τ δ nO nH (mD1 τ δ nS nO 8) nS) nO) nP
theorem rDig {α γ τ δ : oT} {nS nO nH M N C : Nat} (ho : oOK α nS nO nH) (h : rL α τ (δ 42 0) nS nO nH M N C) (hp : rPp γ δ) : kDig α γ nS nO nH = mDig τ δ nS nO nH (oN (γ 0 0 0)) := by
  have hr := h.2.1
  have h2 := h.2.2.2.2.2.2.1
  have h1 := h.2.2.2.2.2.1
  have h3 := h.2.2.2.2.2.2.2.1
  have d1 : ∀ k, k ≤ 8 → kD1 α γ nS nO k = mD1 τ δ nS nO k := fun k hk => by
    induction k with
    | zero => rfl
    | succ k ih => simp only [kD1, mD1]; rw [ih (by omega), rCnt ho h hp (by omega)]
  have s1 : ∀ r d k, r < nS → kMS α nO nH r d k = mS1 τ δ nO nH r d k := fun r d k hr' => by
    induction k with
    | zero => rfl
    | succ k ih => simp only [kMS, mS1]; rw [ih, rSFact h hr']
  have s2 : ∀ r d k, r < nS → k ≤ 6 → kMT α r d k = mS2 τ r d k := fun r d k hr' hk => by
    induction k with
    | zero => rfl
    | succ k ih => simp only [kMT, mS2]; rw [ih (by omega), hr.1.2.1 r hr' k (by omega), hr.1.2.2.1 r (by omega) k (by omega)]
  have d2 : ∀ d k, k ≤ nS → kD2 α nO nH d k = mD2 τ δ nO nH d k := fun d k hk => by
    induction k with
    | zero => rfl
    | succ k ih => simp only [kD2, mD2]; rw [ih (by omega), s1 _ _ _ (by omega), s2 _ _ _ (by omega) (by omega)]
  have o1 : ∀ i d k, i < nO → kMO α i d k = mO1 τ nS nO i d k := fun i d k hi => by
    induction k with
    | zero => rfl
    | succ k ih => simp only [kMO, mO1]; rw [ih, rFact h hi]
  have o2 : ∀ i d k, i < nO → k ≤ 6 → kMB α i d k = mO2 τ i d k := fun i d k hi hk => by
    induction k with
    | zero => rfl
    | succ k ih => simp only [kMB, mO2]; rw [ih (by omega), hr.2.2.2.2.2.2.2.1 i (by omega) k (by omega)]
  have d3 : ∀ d k, k ≤ nO → kD3 α nS d k = mD3 τ nS nO d k := fun d k hk => by
    induction k with
    | zero => rfl
    | succ k ih => simp only [kD3, mD3]; rw [ih (by omega), o1 _ _ _ (by omega), o2 _ _ _ (by omega) (by omega)]
  have d4 : ∀ d k, k ≤ oN (γ 0 0 0) → kD4 γ d k = mD4 δ d k := fun d k hk => by
    induction k with
    | zero => rfl
    | succ k ih => simp only [kD4, mD4]; rw [ih (by omega), hp.2.2 k (by omega)]
  unfold kDig mDig
  rw [d1 8 (Nat.le_refl _), d2 _ _ (Nat.le_refl _), d3 _ _ (Nat.le_refl _), d4 _ _ (Nat.le_refl _)]
