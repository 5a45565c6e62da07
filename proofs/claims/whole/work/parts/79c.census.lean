/-! The census keeps the relation; the start satisfies it -/
theorem rW_st {α β γ τ δ : oT} {nS nO nH : Nat} (h : rT α β γ τ δ nS nO nH) (x : Int32) : oStandN α x nO = qStandN τ x nO := rW_stand h.2.2.2.1.2.1.w x nO (Nat.le_refl _)
theorem rT.nums {α β γ τ δ : oT} {nS nO nH : Nat} (h : rT α β γ τ δ nS nO nH) (hH : nH ≤ 60000) : (∀ k, k < nS → 0 ≤ oStandN α (nI k) nO ∧ 0 ≤ α 4 k 0) ∧ (∀ k, k < nO → 0 ≤ α 14 k 0 ∧ 0 ≤ oNT α k) ∧ (∀ k, k < nS → 0 ≤ τ 4 0 k) ∧ ∀ k, k < nO → 0 ≤ τ 10 0 k := by
  have hS := h.S
  have hO := h.O
  have hr := h.2.2.2.1.2.1
  have hd := h.2.2.2.1.2.2.1
  have c4 : ∀ k, k < nS → 0 ≤ τ 4 0 k := fun k hk => by
    obtain ⟨n, n1, n2⟩ := hd.2.2.2.2.2.1 k (by omega)
    rw [n2]; exact nI_pos' (by omega)
  have c10 : ∀ k, k < nO → 0 ≤ τ 10 0 k := fun k hk => by
    obtain ⟨n, n1, n2⟩ := hd.2.2.2.2.1 k (by omega)
    rw [n2]; exact nI_pos' (by omega)
  refine ⟨fun k hk => ⟨?_, ?_⟩, fun k hk => ⟨?_, ?_⟩, c4, c10⟩
  · rw [rW_st h, (qStandN_8 (τ := τ) (x := nI k) hO).1]; exact nI_pos' oN_lt
  · rw [hr.2.2.2.2.2.2.2.2.1 k (by omega)]; exact c4 k hk
  · rw [hr.2.2.2.2.2.1 k (by omega)]; exact c10 k hk
  · obtain ⟨t1, t2⟩ := rK_tune hr.1 hk
    rw [t1]; exact nI_pos' (by omega)
theorem mLine_k (t : Nat → Int32) (A : oT × Nat) (a b c : Nat) {q : Nat} (h : q ≠ 43) (h' : q ≠ 41) : (mLine t A a b c).1 q = A.1 q := mWrT_k _ _ _ _ h h'
theorem mCS_k (τ : oT) (t : Nat → Int32) (nO : Nat) (A : oT × Nat) {q : Nat} (h : q ≠ 43) (h' : q ≠ 41) : ∀ k, (mCS τ t nO A k).1 q = A.1 q
  | 0 => rfl
  | k + 1 => (mLine_k _ _ _ _ _ h h').trans (mCS_k τ t nO A h h' k)
theorem mCO_k (τ : oT) (t : Nat → Int32) (A : oT × Nat) {q : Nat} (h : q ≠ 43) (h' : q ≠ 41) : ∀ k, (mCO τ t A k).1 q = A.1 q
  | 0 => rfl
  | k + 1 => (mLine_k _ _ _ _ _ h h').trans (mCO_k τ t A h h' k)
theorem pB.streets {α β γ τ δ γ' : oT} {nS nO nH B : Nat} {t : Nat → Int32} {A : oT × Nat} (h : rT α β γ τ δ nS nO nH) (ht : t 0 = 32) (hw : wOK A B) (hB : B + 15 * nS ≤ 320) (hp : pB γ' A.2 (A.1 43 0)) : ∀ k, k ≤ nS → pB (kCenS α γ' nO k) (mCS τ t nO A k).2 ((mCS τ t nO A k).1 43 0)
  | 0, _ => hp
  | k + 1, hk => by
    have hS := h.S
    have ih := pB.streets h ht hw hB hp k (by omega)
    have hw' := mCS_ok (t := t) (τ := τ) h.O hw k (by omega)
    have hl := lnN_s (τ := τ) (nO := nO) (k := k) (by omega) h.O
    rw [kCenS, mCS, rW_st h, h.2.2.2.1.2.1.2.2.2.2.2.2.2.2.1 k (by omega)]
    exact pB.mline ht ih (by have := hw'.2; omega)
theorem pB.organs {α β γ τ δ γ' : oT} {nS nO nH B : Nat} {t : Nat → Int32} {A : oT × Nat} (h : rT α β γ τ δ nS nO nH) (ht : t 0 = 32) (hw : wOK A B) (hB : B + 15 * nO ≤ 320) (hp : pB γ' A.2 (A.1 43 0)) : ∀ k, k ≤ nO → pB (kCenO α γ' k) (mCO τ t A k).2 ((mCO τ t A k).1 43 0)
  | 0, _ => hp
  | k + 1, hk => by
    have hO := h.O
    have ih := pB.organs h ht hw hB hp k (by omega)
    have hw' := mCO_ok (t := t) (τ := τ) h.q hw k (by omega)
    obtain ⟨t1, t2⟩ := rK_tune h.2.2.2.1.2.1.1 (show k < nO by omega)
    have hl := lnN_o (k := k) (c := oN (τ 10 0 k)) (u := qTu τ k) (by omega) (by omega) oN_lt
    rw [kCenO, mCO, h.2.2.2.1.2.1.2.2.2.2.2.1 k (by omega), t1, oN_nI (by omega)]
    exact pB.mline ht ih (by have := hw'.2; omega)
theorem rT.census {α β γ τ δ : oT} {nS nO nH : Nat} (h : rT α β γ τ δ nS nO nH) {f1 f2 t : Nat → Int32} (ht : t 0 = 32) (h1 : ∀ k, k < 19 → (oCh (f1 k)).toInt8.toInt32 = oCh (f1 k)) (h2 : ∀ k, k < 16 → (oCh (f2 k)).toInt8.toInt32 = oCh (f2 k)) {γ' : oT} {E : oT × Nat} (eg : γ' = kCenO α (pW (kText (kCenS α (pW (kText (su γ 0 0 0 0) f1 19) 10) nO nS) f2 16) 10) nO) (eE : E = mCO τ t (mWrT (mCS τ t nO (mWrT (su (su δ 41 0 0 0) 41 0 1 0) 0 19 f1, 20) nS).1 (mCS τ t nO (mWrT (su (su δ 41 0 0 0) 41 0 1 0) 0 19 f1, 20) nS).2 16 f2, (mCS τ t nO (mWrT (su (su δ 41 0 0 0) 41 0 1 0) 0 19 f1, 20) nS).2 + 17) nO) : rT α β γ' τ E.1 nS nO nH ∧ γ' 0 0 0 = nI E.2 := by
  have hS := h.S
  have hO := h.O
  have p0 : pB (su γ 0 0 0 0) 0 ((su (su δ 41 0 0 0) 41 0 1 0) 43 0) := ⟨su_s _ _ _ _ _, by omega, fun j hj => by omega⟩
  have p1 : pB (pW (kText (su γ 0 0 0 0) f1 19) 10) 20 (mWrT (su (su δ 41 0 0 0) 41 0 1 0) 0 19 f1 43 0) := p0.text (n := 19) (by omega) h1
  have w1 : wOK (mWrT (su (su δ 41 0 0 0) 41 0 1 0) 0 19 f1, 20) 20 := ⟨mWrT_p (su (su δ 41 0 0 0) 41 0 1 0) 0 19 f1, Nat.le_refl _⟩
  have p2 := pB.streets h ht w1 (by omega) p1 nS (Nat.le_refl _)
  have w2 := mCS_ok (t := t) (τ := τ) hO w1 nS hS
  have k2 : ∀ q, q ≠ 43 → q ≠ 41 → (mCS τ t nO (mWrT (su (su δ 41 0 0 0) 41 0 1 0) 0 19 f1, 20) nS).1 q = δ q := fun q q1 q2 => by
    rw [mCS_k _ _ _ _ q1 q2]
    show mWrT (su (su δ 41 0 0 0) 41 0 1 0) 0 19 f1 q = δ q
    rw [mWrT_k _ _ _ _ q1 q2, su_k _ _ _ _ q2, su_k _ _ _ _ q2]
  generalize mCS τ t nO (mWrT (su (su δ 41 0 0 0) 41 0 1 0) 0 19 f1, 20) nS = A2 at p2 w2 k2 eE
  generalize kCenS α (pW (kText (su γ 0 0 0 0) f1 19) 10) nO nS = g2 at p2 eg
  have w2b := w2.2
  have p3 : pB (pW (kText g2 f2 16) 10) (A2.2 + 17) (mWrT A2.1 A2.2 16 f2 43 0) := p2.text (n := 16) (by omega) h2
  have w3 : wOK (mWrT A2.1 A2.2 16 f2, A2.2 + 17) (20 + 15 * nS + 17) := ⟨mWrT_p A2.1 A2.2 16 f2, by show A2.2 + 17 ≤ _; omega⟩
  have p4 := pB.organs h ht w3 (by omega) p3 nO (Nat.le_refl _)
  have w4 := mCO_ok (t := t) (τ := τ) h.q w3 nO (Nat.le_refl _)
  rw [← eE] at p4 w4
  rw [← eg] at p4
  have k4 : E.1 42 = δ 42 := by
    rw [eE, mCO_k _ _ _ (by decide) (by decide)]
    show mWrT A2.1 A2.2 16 f2 42 = δ 42
    rw [mWrT_k _ _ _ _ (by decide) (by decide), k2 _ (by decide) (by decide)]
  have w4b := w4.2
  obtain ⟨g1, g2, g3, g4, g5⟩ := h
  have eN : oN (γ' 0 0 0) = E.2 := by rw [p4.1, oN_nI (by omega)]
  refine ⟨⟨g1, g2, ⟨⟨by rw [eN]; exact p4.1, by rw [eN]; exact p4.2.1⟩, ?_, fun j hj => ?_⟩, ?_, g5⟩, p4.1⟩
  · rw [p4.1]; exact w4.1
  · exact p4.2.2 j (by rw [← eN]; exact hj)
  · rw [k4]; exact g4
theorem bR_0 (N B : Nat) : bR (fun _ => 0) N B := fun k _ => ⟨0, Nat.zero_le _, rfl⟩
theorem rT_0 : rT oT0 oT0 mT0 mT0 mT0 0 0 0 := by
  have e0 : ∀ s, oNp oT0 s = 0 := fun s => by
    show (0 : Int32).toNatClampNeg = 0
    decide
  have hok : oOK oT0 0 0 0 := ⟨rfl, by omega, rfl, by omega, rfl, by omega, fun s hs => by rw [e0]; exact ⟨rfl, by omega⟩⟩
  have q0 : ∀ s, qNp mT0 s = 0 := fun s => by
    show (0 : Int32).toNatClampNeg = 0
    decide
  refine ⟨hok, hok.pi, ⟨⟨by decide, by decide⟩, rfl, fun j _ => rfl⟩, ⟨⟨rfl, by omega, rfl, by omega, rfl, by omega, fun s hs => by rw [q0]; exact ⟨rfl, by omega⟩, fun i hi => by omega⟩, ?_, ?_, fun i _ _ => ⟨rfl, rfl, fun _ _ => rfl, fun _ _ => rfl⟩, fun _ _ _ _ _ => rfl, by omega, by omega, by omega, by omega⟩, fun s _ _ u hu => ?_, fun s hs => by omega, fun i hi => by omega⟩
  · exact ⟨⟨fun s _ h _ => rfl, fun i hi => by omega, fun _ _ _ _ => rfl, fun i hi => by omega, fun i hi => by omega, fun i hi => by omega, fun i hi => by omega⟩, fun i hi => by omega, fun i hi => by omega, fun i hi => by omega, fun i hi => by omega, fun _ _ => rfl, fun _ _ _ _ => rfl, fun _ _ _ _ => rfl, fun _ _ => rfl, fun _ _ => rfl, fun i hi => by omega, fun i hi => by omega⟩
  · exact ⟨bR_0 _ _, bR_0 _ _, bR_0 _ _, bR_0 _ _, bR_0 _ _, bR_0 _ _, bR_0 _ _, bR_0 _ _, fun _ _ _ _ _ => rfl⟩
  · show o_fl (fun _ => 0) 5 6 u = 5
    unfold o_fl
    rw [if_pos hu]
