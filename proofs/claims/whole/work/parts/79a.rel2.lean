/-! The relation, the organs -/
theorem pit_in {nS : Nat} {P : Nat → Nat} {x y : Int32} (hS : nS < 2 ^ 31) (hP : ∀ s, s < nS → P s ≤ 20) (h : (oIn x nS && oIn y (P (oN x))) = true) : oN x < nS ∧ x = nI (oN x) ∧ oN y < P (oN x) ∧ y = nI (oN y) := by
  rw [Bool.and_eq_true] at h
  have hx := oIn_lt hS h.1
  have := hP _ hx
  exact ⟨hx, oIn_x h.1, oIn_lt (by omega) h.2, oIn_x h.2⟩
theorem cAdd_0 {nS nO : Nat} {P : Nat → Nat} {x y z : Int32} (hc : cAdd nS nO P x y z = 0) : (oIn x nS && oIn y (P (oN x))) = true ∧ nO ≠ 8 := by
  unfold cAdd at hc
  by_cases c1 : (oIn x nS && oIn y (P (oN x))) = true
  · rw [if_pos c1] at hc
    by_cases c2 : oRg z 1 9 = true
    · rw [if_pos c2] at hc
      by_cases c3 : nO = 8
      · rw [if_pos c3] at hc; cases hc
      · exact ⟨c1, c3⟩
    · rw [if_neg c2] at hc; cases hc
  · rw [if_neg c1] at hc; cases hc
theorem oPutB_kq (τ : oT) (i b : Nat) : oKQ (oPutB τ i b) τ := fun j hj => by
  unfold rQ1 at hj ⊢
  rw [oPutB_kk _ _ _ (by decide) (by decide) (by decide) (by decide) (by decide), oPutB_kk _ _ _ (by decide) (by decide) (by decide) (by decide) (by decide)]
  exact hj
theorem rT.add {α β γ τ δ : oT} {nS nO nH : Nat} {x y z : Int32} (h : rT α β γ τ δ nS nO nH) (hc : cAdd nS nO (oNp α) x y z = 0) : rT (su (oPutB (su (oMove α nO x y 0) 13 nO 0 z) nO 1) 18 0 1 (nI (nO + 1))) β γ (mAdd τ nO x y z) (mT δ 0) nS (nO + 1) nH := by
  have hS := h.S
  have hO := h.O
  obtain ⟨c1, c2⟩ := cAdd_0 hc
  obtain ⟨⟨o1, o2, o3, o4, o5, o6, o7⟩, h2, h3, h4, h5, h6, h7⟩ := rT_mT h 0
  obtain ⟨x1, x2, y1, y2⟩ := pit_in (P := oNp α) (by omega) (fun s hs => (o7 s (by omega)).2) c1
  have hy20 := (o7 (oN x) (by omega)).2
  have k1 : ∀ a, a ≠ 6 → a ≠ 7 → a ≠ 10 → a ≠ 11 → a ≠ 12 → a ≠ 13 → a ≠ 15 → a ≠ 16 → a ≠ 17 → a ≠ 18 → (su (oPutB (su (oMove α nO x y 0) 13 nO 0 z) nO 1) 18 0 1 (nI (nO + 1))) a = α a := fun a q6 q7 q10 q11 q12 q13 q15 q16 q17 q18 => by
    rw [su_k _ _ _ _ q18, oPutB_kk _ _ _ q6 q7 q15 q16 q17, su_k _ _ _ _ q13, oMove_k _ _ _ _ _ q10 q11 q12]
  have k18 : ∀ j, j ≠ 1 → (su (oPutB (su (oMove α nO x y 0) 13 nO 0 z) nO 1) 18 0 1 (nI (nO + 1))) 18 0 j = α 18 0 j := fun j hj => by
    rw [su_j _ _ _ _ hj, oPutB_kk _ _ _ (by decide) (by decide) (by decide) (by decide) (by decide), su_k _ _ _ _ (by decide), oMove_k _ _ _ _ _ (by decide) (by decide) (by decide)]
  have kq : ∀ i, rQ1 (oMove α nO x y 0) i → rQ1 (su (oPutB (su (oMove α nO x y 0) 13 nO 0 z) nO 1) 18 0 1 (nI (nO + 1))) i := (oKQ.su _ _ _ _ (by decide) (by decide)).tr ((oPutB_kq _ _ _).tr (oKQ.su _ _ _ _ (by decide) (by decide)))
  refine ⟨⟨?_, o2, ?_, by omega, ?_, o6, fun s hs => ?_⟩, h2, h3, h4.add (by omega), fun s q1 q2 u hu => ?_, fun s hs => ?_, fun i hi => kq i ?_⟩
  · rw [k18 _ (by decide)]; exact o1
  · rw [su_s]
  · rw [k18 _ (by decide)]; exact o5
  · unfold oNp; rw [k1 3 (by decide) (by decide) (by decide) (by decide) (by decide) (by decide) (by decide) (by decide) (by decide) (by decide)]; exact o7 s hs
  · rw [k1 1 (by decide) (by decide) (by decide) (by decide) (by decide) (by decide) (by decide) (by decide) (by decide) (by decide)]; exact h5 s q1 q2 u hu
  · unfold oNp; rw [k1 3 (by decide) (by decide) (by decide) (by decide) (by decide) (by decide) (by decide) (by decide) (by decide) (by decide)]; exact h6 s hs
  · by_cases e : i = nO
    · rw [e]; exact oMove_qi _ _ (s := oN x) (p := oN y) (by omega) (by omega) x2 y2
    · exact oMove_q _ _ (s := oN x) (p := oN y) (by omega) (by omega) x2 y2 i (h7 i (by omega))
theorem cBar_0 {nO : Nat} {x y : Int32} (hO : nO < 2 ^ 31) (hc : cBar nO x y = 0) : oN x < nO ∧ oVB (oN y) ∧ y = nI (oN y) := by
  unfold cBar at hc
  by_cases c1 : oIn x nO = true
  · rw [if_pos c1] at hc
    by_cases c2 : oBar y = true
    · have hb := oBar_iff.mp c2
      refine ⟨oIn_lt hO c1, hb, ?_⟩
      refine oN_of ?_
      rcases Int32.le_total 0 y with q | q
      · exact q
      · exfalso
        have h0 := hb.2.1
        unfold oN at h0
        rw [← Int32.toNat_toInt] at h0
        have h1 : y.toInt ≤ 0 := Int32.le_iff_toInt_le.mp q
        omega
    · rw [if_neg c2] at hc; cases hc
  · rw [if_neg c1] at hc; cases hc
theorem rT.bar {α β γ τ δ : oT} {nS nO nH : Nat} {x y : Int32} (h : rT α β γ τ δ nS nO nH) (hc : cBar nO x y = 0) : rT (oPutB α (oN x) (oN y)) β γ (mBar τ (oN x) y) (mT δ 0) nS nO nH ∧ α 15 (oN x) 0 = τ 11 0 (oN x) := by
  have hO := h.O
  obtain ⟨c1, c2, c3⟩ := cBar_0 (by omega) hc
  have hk := h.2.2.2.1.2.1.2.2.2.2.2.2.2.2.2.2.2 (oN x) c1
  obtain ⟨h1, h2, h3, h4, h5, h6, h7⟩ := rT_mT h 0
  refine ⟨⟨h1.of ⟨oPutB_kk _ _ _ (by decide) (by decide) (by decide) (by decide) (by decide), oPutB_kk _ _ _ (by decide) (by decide) (by decide) (by decide) (by decide)⟩, h2, h3, h4.bar c1 c2 c3, fun s q1 q2 u hu => ?_, fun s hs => ?_, fun i hi => oPutB_kq _ _ _ i (h7 i hi)⟩, hk⟩
  · rw [oPutB_kk _ _ _ (by decide) (by decide) (by decide) (by decide) (by decide)]; exact h5 s q1 q2 u hu
  · unfold oNp; rw [oPutB_kk _ _ _ (by decide) (by decide) (by decide) (by decide) (by decide)]; exact h6 s hs
theorem far_s : ∀ s, s < 6 → ∀ a, a < 6 → (nI a = nI s ↔ o_abs (nI a - nI s) ≤ 0) ∧ 2 * o_abs (nI a - nI s) = nI (2 * ((a - s) + (s - a))) := by decide +kernel
theorem far_p : ∀ p, p < 20 → ∀ b, b < 20 → o_abs (nI b - nI p) / 5 = nI (((b - p) + (p - b)) / 5) := by decide +kernel
theorem far_eq {α τ : oT} {i : Nat} {y z : Int32} {a b : Nat} (hq : rQ1 α i) (e1 : α 10 i 0 = τ 6 0 i) (e2 : α 11 i 0 = τ 7 0 i) (ha : a < 6) (hb : b < 20) (hy : y = nI a) (hz : z = nI b) : oTo α i y z = qFar τ i y z ∧ ∃ m, m ≤ 20 ∧ oTo α i y z = nI m := by
  obtain ⟨s, p, hs, hp, q1, q2⟩ := hq
  obtain ⟨f1, f2⟩ := far_s s hs a ha
  have f3 := far_p p hp b hb
  unfold oTo qFar
  rw [← e1, ← e2, q1, q2, hy, hz]
  by_cases c : nI a = nI s
  · rw [if_pos c, if_pos (f1.mp c)]
    exact ⟨rfl, _, by omega, f3⟩
  · rw [if_neg c, if_neg (fun q => c (f1.mpr q))]
    exact ⟨rfl, _, by omega, f2⟩
theorem rT.send {α β γ τ δ : oT} {nS nO nH : Nat} {x y z : Int32} (h : rT α β γ τ δ nS nO nH) {g : Int32} (hc : cSend nS nO (oNp α) g x y z = 0) : rT (oMove α (oN x) y z (oTo α (oN x) y z)) β γ (mSend τ (oN x) y z) (mT δ 0) nS nO nH ∧ oTo α (oN x) y z = qFar τ (oN x) y z := by
  have hS := h.S
  have hO := h.O
  unfold cSend at hc
  by_cases c1 : oIn x nO = true ∧ (oIn y nS && oIn z (oNp α (oN y))) = true
  · have hr := h.2.2.2.1.2.1
    obtain ⟨h1, h2, h3, h4, h5, h6, h7⟩ := rT_mT h 0
    obtain ⟨y1, y2, z1, z2⟩ := pit_in (P := oNp α) (by omega) (fun s hs => (h1.2.2.2.2.2.2 s (by omega)).2) c1.2
    have hz20 := (h1.2.2.2.2.2.2 (oN y) (by omega)).2
    have hx := oIn_lt (by omega) c1.1
    obtain ⟨f1, m, f2, f3⟩ := far_eq (h7 _ hx) (hr.2.1 _ hx) (hr.2.2.1 _ hx) (show oN y < 6 by omega) (show oN z < 20 by omega) y2 z2
    refine ⟨⟨h1.of (oMove_kp _ _ _ _ _), h2, h3, ?_, fun s q1 q2 u hu => ?_, fun s hs => ?_, fun i hi => oMove_q _ _ (s := oN y) (p := oN z) (by omega) (by omega) y2 z2 i (h7 i hi)⟩, f1⟩
    · rw [f1]
      rw [f1] at f3
      refine h4.move (m := m) hx f2 f3 (fun a a6 a7 a8 => ?_) (fun j => ?_) (fun j => ?_) (fun j => ?_)
      · unfold mSend; rw [su_k _ _ _ _ a7, su_k _ _ _ _ a6, su_k _ _ _ _ a8]
      · unfold mSend
        rw [su_k _ _ _ _ (by decide), su_at, su_k _ _ _ _ (by decide)]
        by_cases q : j = oN x
        · rw [if_pos ⟨rfl, q⟩, if_pos q]
        · rw [if_neg (fun w => q w.2), if_neg q]
      · unfold mSend
        rw [su_at, su_k _ _ _ _ (by decide), su_k _ _ _ _ (by decide)]
        by_cases q : j = oN x
        · rw [if_pos ⟨rfl, q⟩, if_pos q]
        · rw [if_neg (fun w => q w.2), if_neg q]
      · unfold mSend
        rw [su_k _ _ _ _ (by decide), su_k _ _ _ _ (by decide), su_at]
        by_cases q : j = oN x
        · rw [if_pos ⟨rfl, q⟩, if_pos q]
        · rw [if_neg (fun w => q w.2), if_neg q]
    · rw [oMove_k _ _ _ _ _ (by decide) (by decide) (by decide)]; exact h5 s q1 q2 u hu
    · unfold oNp; rw [oMove_k _ _ _ _ _ (by decide) (by decide) (by decide)]; exact h6 s hs
  · rw [if_neg c1] at hc; cases hc
theorem rT.organ {α β γ τ δ : oT} {nS nO nH : Nat} {x y : Int32} (h : rT α β γ τ δ nS nO nH) (hc : cOrgan nO x y = 0) : oFact α (oN x) (oN y) = mOT τ nS nO (oN x) (oN y) := by
  have hO := h.O
  unfold cOrgan at hc
  by_cases c1 : oIn x nO = true ∧ oRg y 0 10 = true
  · exact rFact h.2.2.2.1 (oIn_lt (by omega) c1.1)
  · rw [if_neg c1] at hc; cases hc
theorem rT.ban' {α β γ τ δ : oT} {nS nO nH : Nat} {x y : Int32} (h : rT α β γ τ δ nS nO nH) (c1 : oIn x nO = true) (c2 : oIn y nS = true) : α 9 (oN x) (oN y) = τ 15 0 (6 * oN x + oN y) := by
  have hS := h.S
  have hO := h.O
  have hx := oIn_lt (by omega) c1
  have hy := oIn_lt (by omega) c2
  exact h.2.2.2.1.2.1.2.2.2.2.2.2.2.1 (oN x) (by omega) (oN y) (by omega)
theorem rT.ban {α β γ τ δ : oT} {nS nO nH : Nat} {x y : Int32} (h : rT α β γ τ δ nS nO nH) (hc : cBan nS nO x y = 0) : α 9 (oN x) (oN y) = τ 15 0 (6 * oN x + oN y) := by
  unfold cBan at hc
  by_cases c1 : oIn x nO = true ∧ oIn y nS = true
  · exact h.ban' c1.1 c1.2
  · rw [if_neg c1] at hc; cases hc
theorem rT.heard {α β γ τ δ : oT} {nS nO nH : Nat} {x y : Int32} (h : rT α β γ τ δ nS nO nH) : oHeard α nO x y = qHeard τ nO x y := by
  have hO := h.O
  exact rW_heard h.2.2.2.1.2.1.w (by omega) x y
theorem rT.cAdd {α β γ τ δ : oT} {nS nO nH : Nat} (h : rT α β γ τ δ nS nO nH) (x y z : Int32) : cAdd nS nO (oNp α) x y z = cAdd nS nO (qNp τ) x y z := by
  have hS := h.S
  exact cAdd_eq (by omega) (fun s hs => h.np hs) x y z
theorem rT.cHeard {α β γ τ δ : oT} {nS nO nH : Nat} (h : rT α β γ τ δ nS nO nH) (x y : Int32) : cHeard nS (oNp α) x y = cHeard nS (qNp τ) x y := by
  have hS := h.S
  exact cHeard_eq (by omega) (fun s hs => h.np hs) x y
theorem rT.cSend {α β γ τ δ : oT} {nS nO nH : Nat} (h : rT α β γ τ δ nS nO nH) (x y z : Int32) : cSend nS nO (oNp α) (α 9 (oN x) (oN y)) x y z = cSend nS nO (qNp τ) (τ 15 0 (6 * oN x + oN y)) x y z := by
  have hS := h.S
  exact cSend_eq (by omega) (fun s hs => h.np hs) (fun c1 c2 => h.ban' c1 c2)
/-! hours, counts, looks ahead -/
theorem cPass_0 {x : Int32} (hc : cPass x = 0) : oN x ≤ 100 ∧ x = nI (oN x) := by
  unfold cPass at hc
  by_cases c1 : oRg x 1 100 = true
  · obtain ⟨e, -, e2⟩ := oRg_n (a := 1) (b := 100) c1 (by decide) (by decide)
    exact ⟨e2, e⟩
  · rw [if_neg c1] at hc; cases hc
theorem rT.pass {α β γ τ δ : oT} {nS nO nH : Nat} {x : Int32} (h : rT α β γ τ δ nS nO nH) (hH : nH + 100 < 1000000) (hc : cPass x = 0) : rT (oPn α nS nO nH (oN x)) β γ (qPn τ (δ 42 0) nS nO nH (oN x)) (mT δ 0) nS nO (nH + oN x) ∧ oPs α nS nO nH (oN x) = qPs τ (δ 42 0) nS nO nH (oN x) := by
  have hS := h.S
  obtain ⟨c1, -⟩ := cPass_0 hc
  obtain ⟨h1, h2, h3, h4, h5, h6, h7⟩ := h
  obtain ⟨g1, g2⟩ := h4.hours (oN x) (by omega)
  have k3 : oPn α nS nO nH (oN x) 3 = α 3 := by
    have : ∀ k, oPn α nS nO nH k 3 = α 3 := fun k => by
      induction k with
      | zero => rfl
      | succ k ih =>
        have e : oPn α nS nO nH (k + 1) 3 = oH5 (oPn α nS nO nH k) nS nO (nH + k) 3 := by
          rw [oPn, oHour, su_k _ _ _ _ (by decide)]
        rw [e, (oH5_kp _ _ _ _).1, ih]
    exact this _
  refine ⟨⟨oPn_ok h1 _ (by omega), h2, rPp_mT h3 0, ?_, fun s q1 q2 u hu => ?_, fun s hs => ?_, fun i hi => oPn_kq _ hS _ i (h7 i hi)⟩, g2⟩
  · rw [mT_k _ _ (by decide), Nat.mul_add]; exact g1
  · rw [oPn_k1]; exact h5 s q1 q2 u hu
  · unfold oNp; rw [k3]; exact h6 s hs
theorem rT.count {α β γ τ δ : oT} {nS nO nH : Nat} {x : Int32} (h : rT α β γ τ δ nS nO nH) (hc : cCount x = 0) : kCnt α γ nS nO (oN x) = mCnt τ δ nS nO (oN x) := by
  unfold cCount at hc
  by_cases c1 : oRg x 0 7 = true
  · obtain ⟨e, -, e2⟩ := oRg_n (a := 0) (b := 7) c1 (by decide) (by decide)
    exact rCnt h.1 h.2.2.2.1 h.2.2.1 (by omega)
  · rw [if_neg c1] at hc; cases hc
theorem cFore_0 {nO : Nat} {x y : Int32} (hO : nO < 2 ^ 31) (hc : cFore nO x y = 0) : oN x < nO ∧ oN y ≤ 100 := by
  unfold cFore at hc
  by_cases c1 : oIn x nO = true
  · rw [if_pos c1] at hc
    by_cases c2 : oRg y 1 100 = true
    · obtain ⟨e, -, e2⟩ := oRg_n (a := 1) (b := 100) c2 (by decide) (by decide)
      exact ⟨oIn_lt hO c1, e2⟩
    · rw [if_neg c2] at hc; cases hc
  · rw [if_neg c1] at hc; cases hc
theorem rT.fore {α β γ τ δ σ : oT} {nS nO nH : Nat} {x y : Int32} (h : rT α β γ τ δ nS nO nH) (hH : nH + 100 < 1000000) (hc : cFore nO x y = 0) : rT α (oPn (oCpT β α nS nO) nS nO nH (oN y)) γ τ (mT δ 0) nS nO nH ∧ oPn (oCpT β α nS nO) nS nO nH (oN y) 14 (oN x) 0 - oCpT β α nS nO 14 (oN x) 0 = qPn (qBc τ σ 15) (δ 42 0) nS nO nH (oN y) 10 0 (oN x) - τ 10 0 (oN x) := by
  have hO := h.O
  obtain ⟨c1, c2⟩ := cFore_0 (by omega) hc
  exact ⟨rT.beta (rT_mT h 0) (oPn_ok (oCpT_ok h.1 h.2.1) _ (by omega)).pi, rFore h.2.2.2.1 c1 (by omega)⟩
theorem cAdv_0 {nS nO : Nat} {x y z : Int32} (hS : nS < 2 ^ 31) (hO : nO < 2 ^ 31) (hc : cAdv nS nO x y z = 0) : oN x < nO ∧ oN y < nS ∧ oN z ≤ 24 := by
  unfold cAdv at hc
  by_cases c1 : oIn x nO = true ∧ oIn y nS = true
  · rw [if_pos c1] at hc
    by_cases c2 : oRg z 1 24 = true
    · obtain ⟨e, -, e2⟩ := oRg_n (a := 1) (b := 24) c2 (by decide) (by decide)
      exact ⟨oIn_lt hO c1.1, oIn_lt hS c1.2, e2⟩
    · rw [if_neg c2] at hc; cases hc
  · rw [if_neg c1] at hc; cases hc
theorem rT.adv {α β γ τ δ σ : oT} {nS nO nH : Nat} {x y z : Int32} (h : rT α β γ τ δ nS nO nH) (hH : nH ≤ 60000) (hc : cAdv nS nO x y z = 0) : rT α (kAv α β nS nO nH (oN x) y (oN z) (oNp α (oN y))).1 γ τ (mT δ 0) nS nO nH ∧ (kAv α β nS nO nH (oN x) y (oN z) (oNp α (oN y))).2.1 = (qAv τ σ (δ 42 0) nS nO nH (oN x) y (oN z) (qNp τ (oN y))).2.1 := by
  have hS := h.S
  have hO := h.O
  obtain ⟨c1, c2, c3⟩ := cAdv_0 (by omega) (by omega) hc
  refine ⟨rT.beta (rT_mT h 0) (kAv_pi h.1 h.2.1 (by omega) _), ?_⟩
  have e := h.np c2
  have h20 := (h.1.2.2.2.2.2.2 (oN y) (by omega)).2
  have h0 := h.2.2.2.2.2.1 (oN y) c2
  rcases rAv (β := β) (σ := σ) (r := y) h.2.2.2.1 c1 (show nH + oN z < 1000000 by omega) (show 10680 * nH + 10680 * oN z < 2 ^ 31 by omega) (oNp α (oN y)) (by omega) with q | ⟨c, b, g, -, -, -, kb, qb, -, -⟩
  · omega
  · rw [kb, ← e, qb]
theorem rT.nP {α β γ τ δ : oT} {nS nO nH : Nat} (h : rT α β γ τ δ nS nO nH) : δ 41 0 1 = nI (oN (γ 0 0 0)) ∧ oN (γ 0 0 0) ≤ 320 := ⟨h.2.2.1.2.1.trans h.2.2.1.1.1, h.2.2.1.1.2⟩
theorem rT.byte {α β γ τ δ : oT} {nS nO nH : Nat} {x : Int32} (h : rT α β γ τ δ nS nO nH) (hc : cByte (oN (γ 0 0 0)) x = 0) : γ 1 0 (oN x) = δ 43 0 (oN x) := by
  unfold cByte at hc
  by_cases c1 : oIn x (oN (γ 0 0 0)) = true
  · exact h.2.2.1.2.2 _ (oIn_lt (by have := h.2.2.1.1.2; omega) c1)
  · rw [if_neg c1] at hc; cases hc
theorem rT.mean {α β γ τ δ : oT} {nS nO nH : Nat} (h : rT α β γ τ δ nS nO nH) : oCoinsA α nO = qOver τ nO := rCoinsA h.2.2.2.1.2.1.2.2.2.2.2.1 nO h.O
theorem rPp_su {γ δ : oT} (h : rPp γ δ) (x : Int32) : rPp γ (su δ 41 0 0 x) := ⟨h.1, by rw [su_j _ _ _ _ (by decide)]; exact h.2.1, fun j hj => by rw [su_k _ _ _ _ (by decide)]; exact h.2.2 j hj⟩
theorem rT_su {α β γ τ δ : oT} {nS nO nH : Nat} (h : rT α β γ τ δ nS nO nH) (x : Int32) : rT α β γ τ (su δ 41 0 0 x) nS nO nH := by
  obtain ⟨h1, h2, h3, h4, h5⟩ := h
  refine ⟨h1, h2, rPp_su h3 x, ?_, h5⟩
  rw [su_k _ _ _ _ (by decide)]; exact h4
theorem rT.dig {α β γ τ δ : oT} {nS nO nH : Nat} (h : rT α β γ τ δ nS nO nH) : kDig α γ nS nO nH = mDig τ (su δ 41 0 0 0) nS nO nH (oN (γ 0 0 0)) := by
  have h9 := rT_su h 0
  exact rDig h9.1 h9.2.2.2.1 h9.2.2.1
