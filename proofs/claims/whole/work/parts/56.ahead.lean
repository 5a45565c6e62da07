/-! THE TWO MEMORIES SIDE BY SIDE: copies, moves, looking ahead -/
theorem su_ne (τ : oT) (k : Nat) {i b : Nat} (j : Nat) (x : Int32) (a : Nat) (h : b ≠ i) : su τ k i j x a b = τ a b := by
  by_cases e : a = k
  · subst e; exact su_i _ _ _ _ h
  · rw [su_k _ _ _ _ e]
theorem sw_ne (τ : oT) (k : Nat) {i b : Nat} (g : Nat → Int32) (a : Nat) (h : b ≠ i) : sw τ k i g a b = τ a b := by
  by_cases e : a = k
  · subst e; exact sw_i _ _ _ h
  · rw [sw_k _ _ _ e]
theorem cpy0 {f g : Nat → Int32} {n j : Nat} (h : j < n) : va_cpy f g 0 0 n j = f j := by
  rw [pk_cpy_in (Nat.zero_le _) (by omega), Nat.sub_zero, Nat.zero_add]
theorem oCpS_ne (τ υ : oT) (r : Nat) {b : Nat} (a : Nat) (h : b ≠ r) : oCpS τ υ r a b = τ a b := by
  unfold oCpS
  rw [su_ne _ _ _ _ _ h, su_ne _ _ _ _ _ h, su_ne _ _ _ _ _ h, sw_ne _ _ _ _ h, sw_ne _ _ _ _ h, sw_ne _ _ _ _ h]
theorem oCpO_ne (τ υ : oT) (r : Nat) {b : Nat} (a : Nat) (h : b ≠ r) : oCpO τ υ r a b = τ a b := by
  unfold oCpO oCpO4 oCpO3 oCpO2 oCpO1
  rw [su_ne _ _ _ _ _ h, su_ne _ _ _ _ _ h, su_ne _ _ _ _ _ h, su_ne _ _ _ _ _ h, su_ne _ _ _ _ _ h, su_ne _ _ _ _ _ h, su_ne _ _ _ _ _ h, su_ne _ _ _ _ _ h, sw_ne _ _ _ _ h, sw_ne _ _ _ _ h, sw_ne _ _ _ _ h, sw_ne _ _ _ _ h]
/-- a copied street, a copied organ -/
def cS (σ υ : oT) (s : Nat) : Prop := (∀ h, h < 24 → σ 0 s h = υ 0 s h) ∧ (∀ u, u < 6 → σ 1 s u = υ 1 s u ∧ σ 2 s u = υ 2 s u) ∧ σ 3 s 0 = υ 3 s 0 ∧ σ 4 s 0 = υ 4 s 0 ∧ σ 5 s 0 = υ 5 s 0
def cO (σ υ : oT) (i : Nat) : Prop := (∀ p, p < 8 → σ 6 i p = υ 6 i p) ∧ (∀ u, u < 6 → σ 7 i u = υ 7 i u ∧ σ 8 i u = υ 8 i u ∧ σ 9 i u = υ 9 i u) ∧ ∀ a, 10 ≤ a → a < 18 → σ a i 0 = υ a i 0
theorem oCpS_c (τ υ : oT) (r : Nat) : cS (oCpS τ υ r) υ r := by
  unfold oCpS
  refine ⟨fun h hh => ?_, fun u hu => ⟨?_, ?_⟩, ?_, ?_, ?_⟩
  · rw [su_k _ _ _ _ (by decide), su_k _ _ _ _ (by decide), su_k _ _ _ _ (by decide), sw_k _ _ _ (by decide), sw_k _ _ _ (by decide), sw_s, cpy0 hh]
  · rw [su_k _ _ _ _ (by decide), su_k _ _ _ _ (by decide), su_k _ _ _ _ (by decide), sw_k _ _ _ (by decide), sw_s, cpy0 hu]
  · rw [su_k _ _ _ _ (by decide), su_k _ _ _ _ (by decide), su_k _ _ _ _ (by decide), sw_s, cpy0 hu]
  · rw [su_k _ _ _ _ (by decide), su_k _ _ _ _ (by decide), su_s]
  · rw [su_k _ _ _ _ (by decide), su_s]
  · rw [su_s]
theorem oCpO_c (τ υ : oT) (r : Nat) : cO (oCpO τ υ r) υ r := by
  have e4 : ∀ a, 10 ≤ a → oCpO4 τ υ r a = τ a := fun a ha => by
    unfold oCpO4 oCpO3 oCpO2 oCpO1
    rw [sw_k _ _ _ (by omega), sw_k _ _ _ (by omega), sw_k _ _ _ (by omega), sw_k _ _ _ (by omega)]
  have e0 : ∀ a, a < 10 → oCpO τ υ r a = oCpO4 τ υ r a := fun a ha => by
    unfold oCpO
    rw [su_k _ _ _ _ (by omega), su_k _ _ _ _ (by omega), su_k _ _ _ _ (by omega), su_k _ _ _ _ (by omega), su_k _ _ _ _ (by omega), su_k _ _ _ _ (by omega), su_k _ _ _ _ (by omega), su_k _ _ _ _ (by omega)]
  refine ⟨fun p hp => ?_, fun u hu => ⟨?_, ?_, ?_⟩, fun a h1 h2 => ?_⟩
  · rw [e0 _ (by decide)]
    unfold oCpO4 oCpO3 oCpO2 oCpO1
    rw [sw_k _ _ _ (show (6 : Nat) ≠ 9 by decide), sw_k _ _ _ (show (6 : Nat) ≠ 8 by decide), sw_k _ _ _ (show (6 : Nat) ≠ 7 by decide), sw_s, cpy0 hp]
  · rw [e0 _ (by decide)]
    unfold oCpO4 oCpO3 oCpO2
    rw [sw_k _ _ _ (show (7 : Nat) ≠ 9 by decide), sw_k _ _ _ (show (7 : Nat) ≠ 8 by decide), sw_s, cpy0 hu]
  · rw [e0 _ (by decide)]
    unfold oCpO4 oCpO3
    rw [sw_k _ _ _ (show (8 : Nat) ≠ 9 by decide), sw_s, cpy0 hu]
  · rw [e0 _ (by decide)]
    unfold oCpO4
    rw [sw_s, cpy0 hu]
  · unfold oCpO
    rcases (show a = 10 ∨ a = 11 ∨ a = 12 ∨ a = 13 ∨ a = 14 ∨ a = 15 ∨ a = 16 ∨ a = 17 by omega) with rfl | rfl | rfl | rfl | rfl | rfl | rfl | rfl <;> simp [su]
theorem cS.of {σ σ' υ : oT} {s : Nat} (h : cS σ υ s) (e : ∀ a, a < 6 → σ' a s = σ a s) : cS σ' υ s := by
  unfold cS at *
  rw [e 0 (by decide), e 1 (by decide), e 2 (by decide), e 3 (by decide), e 4 (by decide), e 5 (by decide)]
  exact h
theorem oCpSs_c (τ υ : oT) : ∀ n s, s < n → cS (oCpSs τ υ n) υ s
  | 0, s, h => by omega
  | n + 1, s, h => by
    rw [oCpSs]
    by_cases e : s = n
    · subst e; exact oCpS_c _ _ _
    · exact (oCpSs_c τ υ n s (by omega)).of (fun a _ => oCpS_ne _ _ _ _ e)
theorem cO.of {σ σ' υ : oT} {i : Nat} (h : cO σ υ i) (e : ∀ a, σ' a i = σ a i) : cO σ' υ i := by
  unfold cO at *
  simp only [e]
  exact h
theorem oCpOs_c (τ υ : oT) : ∀ n i, i < n → cO (oCpOs τ υ n) υ i
  | 0, s, h => by omega
  | n + 1, s, h => by
    rw [oCpOs]
    by_cases e : s = n
    · subst e; exact oCpO_c _ _ _
    · exact (oCpOs_c τ υ n s (by omega)).of (fun a => oCpO_ne _ _ _ _ e)
theorem oCpT_c (β α : oT) (nS nO : Nat) : (∀ s, s < nS → cS (oCpT β α nS nO) α s) ∧ ∀ i, i < nO → cO (oCpT β α nS nO) α i := by
  unfold oCpT
  exact ⟨fun s hs => (oCpSs_c (oCp0 β α) α nS s hs).of (fun a ha => by rw [oCpOs_k _ _ ha]), fun i hi => oCpOs_c _ _ _ _ hi⟩
theorem bR_of {f g : Nat → Int32} {N B : Nat} (h : bR f N B) (e : ∀ j, j < N → g j = f j) : bR g N B := fun k hk => by rw [e k hk]; exact h k hk
/-- the memories ahead, made copies -/
theorem rL.copy {α β τ σ : oT} {ps : Nat → Int32} {nS nO nH M N C : Nat} (h : rL α τ ps nS nO nH M N C) : rL (oCpT β α nS nO) (qBc τ σ 15) ps nS nO nH nS nO C := by
  obtain ⟨hq, hr, hd, hz, he, h1, h2, h3, h4⟩ := h
  obtain ⟨aS, aO⟩ := oCpT_c β α nS nO
  have q : ∀ a, 1 ≤ a → a ≤ 15 → ∀ j, j < qBl a → qBc τ σ 15 a 0 j = τ a 0 j := fun a g1 g2 j hj => qBc_at τ σ g1 15 g2 j hj
  obtain ⟨⟨p0, k1, k2, k7, k17, kc, kv⟩, c10, c11, c12, c13, c14, c8, c9, c4, c5, c3, c15⟩ := hr
  have q8 : ∀ a, qBl a = 8 → 1 ≤ a → a ≤ 15 → ∀ i, i < nO → qBc τ σ 15 a 0 i = τ a 0 i := fun a g0 g1 g2 i hi => q a g1 g2 i (by omega)
  have q48 : ∀ a, qBl a = 48 → 1 ≤ a → a ≤ 15 → ∀ i, i < 8 → ∀ u, u < 6 → qBc τ σ 15 a 0 (6 * i + u) = τ a 0 (6 * i + u) := fun a g0 g1 g2 i hi u hu => q a g1 g2 _ (by omega)
  have q36 : ∀ a, qBl a = 36 → 1 ≤ a → a ≤ 15 → ∀ i, i < 6 → ∀ u, u < 6 → qBc τ σ 15 a 0 (6 * i + u) = τ a 0 (6 * i + u) := fun a g0 g1 g2 i hi u hu => q a g1 g2 _ (by omega)
  have q6 : ∀ a, qBl a = 6 → 1 ≤ a → a ≤ 15 → ∀ i, i < 6 → qBc τ σ 15 a 0 i = τ a 0 i := fun a g0 g1 g2 i hi => q a g1 g2 i (by omega)
  have eB : ∀ i, i < nO → qB (qBc τ σ 15) i = qB τ i := fun i hi => by unfold qB; rw [q8 11 rfl (by decide) (by decide) i hi]
  have eP : ∀ i, i < nO → qP (qBc τ σ 15) i = qP τ i := fun i hi => by unfold qP; rw [q8 12 rfl (by decide) (by decide) i hi]
  refine ⟨qBc_ok hq, ⟨⟨fun s hs h hh => ?_, fun s hs u hu => ?_, fun s hs u hu => ?_, fun i hi u hu => ?_, fun i hi => ?_, fun i hi => ?_, fun i hi => ?_⟩, fun i hi => ?_, fun i hi => ?_, fun i hi => ?_, fun i hi => ?_, fun i hi => ?_, fun i hi r hr => ?_, fun i hi r hr => ?_, fun s hs => ?_, fun s hs => ?_, fun s hs => ?_, fun i hi => ?_⟩, ?_, ?_, ?_, Nat.le_refl _, by omega, Nat.le_refl _, by omega⟩
  · rw [(aS s hs).1 h hh]; exact p0 s (by omega) h hh
  · rw [((aS s hs).2.1 u hu).1, q36 2 rfl (by decide) (by decide) s (by omega) u hu]; exact k1 s hs u hu
  · rw [((aS s hs).2.1 u hu).2, q36 3 rfl (by decide) (by decide) s (by omega) u hu]; exact k2 s (by omega) u hu
  · rw [((aO i hi).2.1 u hu).1, q48 13 rfl (by decide) (by decide) i (by omega) u hu]; exact k7 i hi u hu
  · rw [(aO i hi).2.2 17 (by decide) (by decide), q8 12 rfl (by decide) (by decide) i hi]; exact k17 i hi
  · rw [eB i hi, (aO i hi).2.2 16 (by decide) (by decide)]
    refine ⟨(kc i hi).1, fun p hp => ?_⟩
    have h8 := oDg_8 (kv i hi).2.1.1
    rw [(aO i hi).1 p (by omega)]
    exact (kc i hi).2 p hp
  · rw [eB i hi, eP i hi, q8 12 rfl (by decide) (by decide) i hi]; exact kv i hi
  · rw [(aO i hi).2.2 10 (by decide) (by decide), q8 6 rfl (by decide) (by decide) i hi]; exact c10 i hi
  · rw [(aO i hi).2.2 11 (by decide) (by decide), q8 7 rfl (by decide) (by decide) i hi]; exact c11 i hi
  · rw [(aO i hi).2.2 12 (by decide) (by decide), q8 8 rfl (by decide) (by decide) i hi]; exact c12 i hi
  · rw [(aO i hi).2.2 13 (by decide) (by decide), q8 9 rfl (by decide) (by decide) i hi]; exact c13 i hi
  · rw [(aO i hi).2.2 14 (by decide) (by decide), q8 10 rfl (by decide) (by decide) i hi]; exact c14 i (by omega)
  · rw [((aO i hi).2.1 r hr).2.1, q48 14 rfl (by decide) (by decide) i (by omega) r hr]; exact c8 i (by omega) r hr
  · rw [((aO i hi).2.1 r hr).2.2, q48 15 rfl (by decide) (by decide) i (by omega) r hr]; exact c9 i (by omega) r hr
  · rw [(aS s hs).2.2.2.1, q6 4 rfl (by decide) (by decide) s (by omega)]; exact c4 s (by omega)
  · rw [(aS s hs).2.2.2.2, q6 5 rfl (by decide) (by decide) s (by omega)]; exact c5 s (by omega)
  · rw [(aS s hs).2.2.1, q6 1 rfl (by decide) (by decide) s (by omega)]; exact c3 s hs
  · rw [(aO i hi).2.2 15 (by decide) (by decide), q8 11 rfl (by decide) (by decide) i hi]; exact c15 i hi
  · obtain ⟨d2, d3, d13, dp, d10, d4, d8, d15, dz⟩ := hd
    exact ⟨bR_of d2 (q 2 (by decide) (by decide)), bR_of d3 (q 3 (by decide) (by decide)), bR_of d13 (q 13 (by decide) (by decide)), dp, bR_of d10 (q 10 (by decide) (by decide)), bR_of d4 (q 4 (by decide) (by decide)), bR_of d8 (q 8 (by decide) (by decide)), bR_of d15 (q 15 (by decide) (by decide)), fun i hi r g1 g2 => by rw [q48 15 rfl (by decide) (by decide) i hi r g2]; exact dz i hi r g1 g2⟩
  · intro i g1 g2
    obtain ⟨z8, z12, z13, z15⟩ := hz i g1 g2
    refine ⟨?_, ?_, fun u hu => ?_, fun r hr => ?_⟩
    · rw [q 8 (by decide) (by decide) i g2]; exact z8
    · rw [q 12 (by decide) (by decide) i g2]; exact z12
    · rw [q48 13 rfl (by decide) (by decide) i g2 u hu]; exact z13 u hu
    · rw [q48 15 rfl (by decide) (by decide) i g2 r hr]; exact z15 r hr
  · intro i hi r g1 g2
    rw [q48 14 rfl (by decide) (by decide) i hi r g2]
    exact he i hi r g1 g2
/-- an organ sent somewhere -/
theorem rL.move {α τ τ' : oT} {ps : Nat → Int32} {nS nO nH M N C i m : Nat} {x y z : Int32} (h : rL α τ ps nS nO nH M N C) (hi : i < nO) (hm : m ≤ 20) (ez : z = nI m) (e : ∀ a, a ≠ 6 → a ≠ 7 → a ≠ 8 → τ' a = τ a) (e6 : ∀ j, τ' 6 0 j = if j = i then x else τ 6 0 j) (e7 : ∀ j, τ' 7 0 j = if j = i then y else τ 7 0 j) (e8 : ∀ j, τ' 8 0 j = if j = i then z else τ 8 0 j) : rL (oMove α i x y z) τ' ps nS nO nH M N C := by
  obtain ⟨hq, hr, hd, hz, he, h1, h2, h3, h4⟩ := h
  obtain ⟨hk, c10, c11, c12, c13, c14, c8, c9, c4, c5, c3, c15⟩ := hr
  have o : ∀ a, a ≠ 10 → a ≠ 11 → a ≠ 12 → oMove α i x y z a = α a := fun a g1 g2 g3 => oMove_k _ _ _ _ _ g1 g2 g3
  have o10 : ∀ j, oMove α i x y z 10 j 0 = if j = i then x else α 10 j 0 := fun j => by
    unfold oMove
    rw [su_k _ _ _ _ (by decide), su_k _ _ _ _ (by decide), su_at]; simp
  have o11 : ∀ j, oMove α i x y z 11 j 0 = if j = i then y else α 11 j 0 := fun j => by
    unfold oMove
    rw [su_k _ _ _ _ (by decide), su_at, su_k _ _ _ _ (show (11 : Nat) ≠ 10 by decide)]; simp
  have o12 : ∀ j, oMove α i x y z 12 j 0 = if j = i then z else α 12 j 0 := fun j => by
    unfold oMove
    rw [su_at, su_k _ _ _ _ (show (12 : Nat) ≠ 11 by decide), su_k _ _ _ _ (show (12 : Nat) ≠ 10 by decide)]; simp
  refine ⟨hq.of ⟨e 1 (by decide) (by decide) (by decide), e 11 (by decide) (by decide) (by decide), e 12 (by decide) (by decide) (by decide), e 40 (by decide) (by decide) (by decide)⟩, ⟨?_, fun j hj => ?_, fun j hj => ?_, fun j hj => ?_, ?_, ?_, ?_, ?_, ?_, ?_, ?_, ?_⟩, ?_, ?_, ?_, h1, h2, h3, h4⟩
  · exact hk.of (o _ (by decide) (by decide) (by decide)) (o _ (by decide) (by decide) (by decide)) (o _ (by decide) (by decide) (by decide)) (o _ (by decide) (by decide) (by decide)) (o _ (by decide) (by decide) (by decide)) (o _ (by decide) (by decide) (by decide)) (o _ (by decide) (by decide) (by decide)) (e _ (by decide) (by decide) (by decide)) (e _ (by decide) (by decide) (by decide)) (e _ (by decide) (by decide) (by decide)) (e _ (by decide) (by decide) (by decide)) (e _ (by decide) (by decide) (by decide))
  · rw [o10, e6, c10 j hj]
  · rw [o11, e7, c11 j hj]
  · rw [o12, e8, c12 j hj]
  · rw [o _ (by decide) (by decide) (by decide), e _ (by decide) (by decide) (by decide)]; exact c13
  · rw [o _ (by decide) (by decide) (by decide), e _ (by decide) (by decide) (by decide)]; exact c14
  · rw [o _ (by decide) (by decide) (by decide), e _ (by decide) (by decide) (by decide)]; exact c8
  · rw [o _ (by decide) (by decide) (by decide), e _ (by decide) (by decide) (by decide)]; exact c9
  · rw [o _ (by decide) (by decide) (by decide), e _ (by decide) (by decide) (by decide)]; exact c4
  · rw [o _ (by decide) (by decide) (by decide), e _ (by decide) (by decide) (by decide)]; exact c5
  · rw [o _ (by decide) (by decide) (by decide), e _ (by decide) (by decide) (by decide)]; exact c3
  · rw [o _ (by decide) (by decide) (by decide), e _ (by decide) (by decide) (by decide)]; exact c15
  · unfold rD at *
    rw [e 2 (by decide) (by decide) (by decide), e 3 (by decide) (by decide) (by decide), e 13 (by decide) (by decide) (by decide), e 10 (by decide) (by decide) (by decide), e 4 (by decide) (by decide) (by decide), e 15 (by decide) (by decide) (by decide)]
    obtain ⟨d2, d3, d13, dp, d10, d4, d8, d15, dz⟩ := hd
    refine ⟨d2, d3, d13, dp, d10, d4, fun j hj => ?_, d15, dz⟩
    rw [e8]
    split
    · exact ⟨m, hm, ez⟩
    · exact d8 j hj
  · intro j g1 g2
    rw [e8, if_neg (by omega), e 12 (by decide) (by decide) (by decide), e 13 (by decide) (by decide) (by decide), e 15 (by decide) (by decide) (by decide)]
    exact hz j g1 g2
  · unfold rE
    rw [e 14 (by decide) (by decide) (by decide)]; exact he
theorem mv3 (τ : oT) (i : Nat) (x y z : Int32) : (∀ a, a ≠ 6 → a ≠ 7 → a ≠ 8 → su (su (su τ 6 0 i x) 7 0 i y) 8 0 i z a = τ a) ∧ (∀ j, su (su (su τ 6 0 i x) 7 0 i y) 8 0 i z 6 0 j = if j = i then x else τ 6 0 j) ∧ (∀ j, su (su (su τ 6 0 i x) 7 0 i y) 8 0 i z 7 0 j = if j = i then y else τ 7 0 j) ∧ ∀ j, su (su (su τ 6 0 i x) 7 0 i y) 8 0 i z 8 0 j = if j = i then z else τ 8 0 j := by
  refine ⟨fun a g1 g2 g3 => ?_, fun j => ?_, fun j => ?_, fun j => ?_⟩
  · rw [su_k _ _ _ _ g3, su_k _ _ _ _ g2, su_k _ _ _ _ g1]
  · rw [su_k _ _ _ _ (by decide), su_k _ _ _ _ (by decide), su_at]; simp
  · rw [su_k _ _ _ _ (by decide), su_at, su_k _ _ _ _ (show (7 : Nat) ≠ 6 by decide)]; simp
  · rw [su_at, su_k _ _ _ _ (show (8 : Nat) ≠ 7 by decide), su_k _ _ _ _ (show (8 : Nat) ≠ 6 by decide)]; simp
/-- coins grow -/
theorem rL.up {α τ : oT} {ps : Nat → Int32} {nS nO nH M N C : Nat} (h : rL α τ ps nS nO nH M N C) : ∀ k, nH + k < 1000000 → bI2 (qPn τ ps nS nO nH k) τ (10680 * k)
  | 0, _ => bI2.rf τ
  | k + 1, hk => by
    have ih := h.up k (by omega)
    obtain ⟨hq, hr, hd, hz, he, h1, h2, h3, h4⟩ := (h.hours k (by omega)).1
    show bI2 (qHour (qPn τ ps nS nO nH k) ps nS nO (nH + k)) τ (10680 * k + 10680)
    exact bI2.tr (qHour_up (by omega) (by omega) hq hd) ih
theorem rFore {α β τ σ : oT} {ps : Nat → Int32} {nS nO nH M N C i k : Nat} (h : rL α τ ps nS nO nH M N C) (hi : i < nO) (hk : nH + k < 1000000) : oPn (oCpT β α nS nO) nS nO nH k 14 i 0 - oCpT β α nS nO 14 i 0 = qPn (qBc τ σ 15) ps nS nO nH k 10 0 i - τ 10 0 i := by
  have e := ((h.copy (β := β) (σ := σ)).hours k hk).1.2.1.2.2.2.2.2.1 i hi
  have e2 := h.2.1.2.2.2.2.2.1 i (by have := h.2.2.2.2.2.2.2.1; omega)
  rw [e, ((oCpT_c β α nS nO).2 i hi).2.2 14 (by decide) (by decide), e2]
/-- what looking at a pitch gives -/
theorem rAv1 {α β τ σ : oT} {ps : Nat → Int32} {nS nO nH M N C i k t : Nat} {r : Int32} (h : rL α τ ps nS nO nH M N C) (hi : i < nO) (hk : nH + k < 1000000) (hC : C + 10680 * k < 2 ^ 31) : ∃ c d, c + d < 2 ^ 31 ∧ τ 10 0 i = nI c ∧ qPn (su (su (su (qBc τ σ 15) 6 0 i r) 7 0 i (nI t)) 8 0 i 0) ps nS nO nH k 10 0 i = nI (c + d) ∧ oPn (oMove (oCpT β α nS nO) i r (nI t) 0) nS nO nH k 14 i 0 - oMove (oCpT β α nS nO) i r (nI t) 0 14 i 0 = nI d := by
  obtain ⟨m0, m6, m7, m8⟩ := mv3 (qBc τ σ 15) i r (nI t) 0
  have hc := h.copy (β := β) (σ := σ)
  have hmv := hc.move (x := r) (y := nI t) (z := 0) (m := 0) hi (by omega) rfl m0 m6 m7 m8
  have e := (hmv.hours k hk).1.2.1.2.2.2.2.2.1 i hi
  obtain ⟨d, d1, d2⟩ := (hmv.up k hk).1 i (by have := h.2.2.2.2.2.2.2.1; have := h.2.2.2.2.2.2.2.2; omega)
  have f : su (su (su (qBc τ σ 15) 6 0 i r) 7 0 i (nI t)) 8 0 i 0 10 0 i = τ 10 0 i := by
    rw [m0 10 (by decide) (by decide) (by decide)]
    exact qBc_at τ σ (by decide) 15 (by decide) i (show i < 8 by have := h.2.2.2.2.2.2.2.1; have := h.2.2.2.2.2.2.2.2; omega)
  obtain ⟨c, c1, c2⟩ := h.2.2.1.2.2.2.2.1 i (by have := h.2.2.2.2.2.2.2.1; have := h.2.2.2.2.2.2.2.2; omega)
  rw [f, c2, nI_add] at d2
  refine ⟨c, d, by omega, c2, d2, ?_⟩
  rw [e, d2, oMove_k _ _ _ _ _ (by decide) (by decide) (by decide), ((oCpT_c β α nS nO).2 i hi).2.2 14 (by decide) (by decide), h.2.1.2.2.2.2.2.1 i (by have := h.2.2.2.2.2.2.2.1; omega), c2, pk_sub (by omega)]
  congr 1; omega
theorem rAv {α β τ σ : oT} {ps : Nat → Int32} {nS nO nH M N C i k : Nat} {r : Int32} (h : rL α τ ps nS nO nH M N C) (hi : i < nO) (hk : nH + k < 1000000) (hC : C + 10680 * k < 2 ^ 31) : ∀ t, t < 1000 → (t = 0 ∨ ∃ c b g, c + g < 2 ^ 31 ∧ b < 1000 ∧ τ 10 0 i = nI c ∧ (kAv α β nS nO nH i r k t).2.1 = nI b ∧ (qAv τ σ ps nS nO nH i r k t).2.1 = nI b ∧ (kAv α β nS nO nH i r k t).2.2 = nI g ∧ (qAv τ σ ps nS nO nH i r k t).2.2 = nI (c + g))
  | 0, _ => Or.inl rfl
  | t + 1, ht => by
    have ih := rAv (β := β) (σ := σ) (r := r) h hi hk hC t (by omega)
    obtain ⟨c, d, cd, c2, q2, k2⟩ := rAv1 (β := (kAv α β nS nO nH i r k t).1) (σ := (qAv τ σ ps nS nO nH i r k t).1) (t := t) (r := r) h hi hk hC
    refine Or.inr ?_
    simp only [kAv, qAv]
    rw [k2, q2]
    rcases ih with e | ⟨c', b, g, cg, hb, c2', kb, qb, kg, qg⟩
    · subst e
      have n1 : (kAv α β nS nO nH i r k 0).2.2 < nI d := by
        show (-1 : Int32) < nI d
        exact Int32.lt_of_lt_of_le (show (-1 : Int32) < 0 by decide) (nI_pos' (by omega))
      rw [if_pos n1, if_neg (fun q => q.1 rfl)]
      exact ⟨c, 0, d, cd, by omega, c2, rfl, rfl, rfl, rfl⟩
    · have ec : c' = c := by rw [c2'] at c2; exact (nI_eq (by omega) (by omega)).mp c2
      subst ec
      have nb : ¬ nI b = -1 := fun q => nI_pos (n := b) (by omega) (by rw [q]; decide)
      rw [kb, qb, kg, qg]
      by_cases e : g < d
      · rw [if_pos (nI_lt e (by omega)), if_neg (fun q => q.2 (nI_lt (by omega) (by omega)))]
        exact ⟨c', t, d, cd, by omega, c2, rfl, rfl, rfl, rfl⟩
      · rw [if_neg (nI_nlt (by omega) (by omega)), if_pos ⟨nb, nI_nlt (by omega) (by omega)⟩]
        exact ⟨c', b, g, cg, hb, c2, rfl, rfl, rfl, rfl⟩
