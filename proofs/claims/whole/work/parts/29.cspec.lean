/-! the class's faces: pure rows -/
theorem oN_neg {x : Int32} (h : ¬ 0 ≤ x) : oN x = 0 := oN_0 (Int32.le_of_lt (Int32.not_le.mp h))
theorem oBar_x {x : Int32} (h : oBar x = true) : x = nI (oN x) := by
  have hv := oBar_iff.mp h
  by_cases h0 : 0 ≤ x
  · exact oN_of h0
  · have := oN_neg h0
    have := hv.2.1
    omega
def oDk (x : Int32) (j : Nat) : Prop := 1 ≤ oN x / 10 ^ j % 10 ∧ oN x / 10 ^ j % 10 ≤ 6
def oBk (x : Int32) (k : Nat) : Prop := ∀ j, j < k → 0 < oBr x j ∧ oDk x j
theorem oBk_rem {x : Int32} {k : Nat} (h0 : 0 ≤ x) : o_rem (oBr x k) 10 = nI (oN x / 10 ^ k % 10) := o_rem_n (oBr_n h0 k) rfl (Nat.lt_of_le_of_lt (Nat.div_le_self _ _) oN_lt) (by decide) (by decide)
theorem oBk_x {x : Int32} {k : Nat} (hq : oBk x k) (h : ¬ oBr x k ≤ 0) : 0 ≤ x := by
  match k, hq, h with
  | 0, _, h => exact Int32.le_of_lt (Int32.not_le.mp h)
  | k + 1, hq, _ => exact Int32.le_of_lt (hq 0 (by omega)).1
theorem oBk_s {x : Int32} {k : Nat} (hq : oBk x k) (h : ¬ oBr x k ≤ 0) (h1 : ¬ o_rem (oBr x k) 10 < 1) (h2 : o_rem (oBr x k) 10 ≤ 6) : oBk x (k + 1) := by
  have h0 := oBk_x hq h
  have hm : oN x / 10 ^ k % 10 < 10 := Nat.mod_lt _ (by decide)
  rw [oBk_rem h0] at h1 h2
  have h1' := Int32.not_lt.mp h1
  rw [o_nle (x := (1 : Int32)) (a := 1) (b := oN x / 10 ^ k % 10) rfl rfl (by decide) (by omega)] at h1'
  rw [o_nle (y := (6 : Int32)) (a := oN x / 10 ^ k % 10) (b := 6) rfl rfl (by omega) (by decide)] at h2
  intro j hj
  by_cases e : j = k
  · subst e; exact ⟨Int32.not_le.mp h, h1', h2⟩
  · exact hq j (by omega)
theorem oBk_end {x : Int32} (h : oBk x 40) : False := by
  have h0 : 0 ≤ x := Int32.le_of_lt (h 0 (by omega)).1
  have h1 := (oBr_pos h0 39).mp (h 39 (by omega)).1
  have h2 := oDg_10 (@oN_lt x)
  omega
theorem oBar_no {x : Int32} (h : ¬ oVB (oN x)) : (0 : Int32) = bI (oBar x) := by
  rw [show oBar x = false from Bool.eq_false_iff.mpr (fun h1 => h (oBar_iff.mp h1))]; rfl
theorem oBk_f {x : Int32} {k : Nat} (hq : oBk x k) (h : ¬ oBr x k ≤ 0) (h1 : o_rem (oBr x k) 10 < 1) : (0 : Int32) = bI (oBar x) := by
  have h0 := oBk_x hq h
  have hm : oN x / 10 ^ k % 10 < 10 := Nat.mod_lt _ (by decide)
  rw [oBk_rem h0, o_nlt (y := (1 : Int32)) (a := oN x / 10 ^ k % 10) (b := 1) rfl rfl (by omega) (by decide)] at h1
  refine oBar_no (fun hv => ?_)
  have := (hv.2.2 k ((oBr_pos h0 k).mp (Int32.not_le.mp h))).1
  omega
theorem oBk_g {x : Int32} {k : Nat} (hq : oBk x k) (h : ¬ oBr x k ≤ 0) (h1 : ¬ o_rem (oBr x k) 10 ≤ 6) : (0 : Int32) = bI (oBar x) := by
  have h0 := oBk_x hq h
  have hm : oN x / 10 ^ k % 10 < 10 := Nat.mod_lt _ (by decide)
  rw [oBk_rem h0, o_nle (y := (6 : Int32)) (a := oN x / 10 ^ k % 10) (b := 6) rfl rfl (by omega) (by decide)] at h1
  refine oBar_no (fun hv => ?_)
  have := (hv.2.2 k ((oBr_pos h0 k).mp (Int32.not_le.mp h))).2
  omega
/-- the number of digits, when the rest is gone -/
theorem oBk_dg {x : Int32} {k : Nat} (hq : oBk x k) (h : oBr x k ≤ 0) : oDg (oN x) = k := by
  match k, hq, h with
  | 0, hq, h =>
    have e : oN x = 0 := oN_0 h
    rw [e]
    exact Nat.le_zero.mp ((oDg_le (b := 0) (k := 0) (by decide)).mpr rfl)
  | k + 1, hq, h =>
    have h0 : 0 ≤ x := Int32.le_of_lt (hq 0 (by omega)).1
    have h1 := (oBr_pos h0 k).mp (hq k (by omega)).1
    have h2 : ¬ k + 1 < oDg (oN x) := fun h3 => absurd ((oBr_pos h0 _).mpr h3) (Int32.not_lt.mpr h)
    omega
theorem oBk_k {x : Int32} {k : Nat} (hq : oBk x k) (h : oBr x k ≤ 0) : k ≤ 10 := by rw [← oBk_dg hq h]; exact oDg_10 oN_lt
theorem oBk_b {x : Int32} {k : Nat} (hq : oBk x k) (h : oBr x k ≤ 0) (h1 : nI k < 1) : (0 : Int32) = bI (oBar x) := by
  have h9 := oBk_k hq h
  rw [o_nlt (y := (1 : Int32)) (a := k) (b := 1) rfl rfl (by omega) (by decide)] at h1
  have h2 := oBk_dg hq h
  refine oBar_no (fun hv => ?_)
  have := oDg_pos oN_lt hv.2.1
  omega
theorem oBk_c {x : Int32} {k : Nat} (hq : oBk x k) (h : oBr x k ≤ 0) (h1 : 8 < nI k) : (0 : Int32) = bI (oBar x) := by
  have h9 := oBk_k hq h
  rw [o_nlt (x := (8 : Int32)) (a := 8) (b := k) rfl rfl (by decide) (by omega)] at h1
  have h2 := oBk_dg hq h
  refine oBar_no (fun hv => ?_)
  have := oDg_8 hv.1
  omega
theorem oBk_a {x : Int32} {k : Nat} (hq : oBk x k) (h : oBr x k ≤ 0) (h1 : ¬ nI k < 1) (h3 : ¬ 8 < nI k) : (1 : Int32) = bI (oBar x) := by
  have h9 := oBk_k hq h
  rw [o_nlt (y := (1 : Int32)) (a := k) (b := 1) rfl rfl (by omega) (by decide)] at h1
  rw [o_nlt (x := (8 : Int32)) (a := 8) (b := k) rfl rfl (by decide) (by omega)] at h3
  have h2 := oBk_dg hq h
  have h4 : ¬ 8 < oDg (oN x) := by omega
  rw [oDg_lt oN_lt] at h4
  have hb : oN x < 100000000 := by
    rcases Nat.lt_or_ge (oN x) 100000000 with h5 | h5
    · exact h5
    · exact absurd (Nat.div_pos h5 (by decide)) (by have := Decidable.not_not.mp h4; omega)
  have h5 : 0 < oN x := by
    rcases Nat.eq_zero_or_pos (oN x) with h6 | h6
    · rw [h6] at h2
      have : oDg 0 = 0 := Nat.le_zero.mp ((oDg_le (b := 0) (k := 0) (by decide)).mpr rfl)
      omega
    · exact h6
  rw [show oBar x = true from oBar_iff.mpr ⟨hb, h5, fun j hj => (hq j (by omega)).2⟩]; rfl
theorem oOK.sz {τ : oT} {nS nO nH : Nat} (h : oOK τ nS nO nH) : oSz2 τ nS nO := ⟨h.1, h.2.1, h.2.2.1, h.2.2.2.1⟩
/-- pitches of every street, built or not -/
def oPi (τ : oT) : Prop := ∀ s, s < 6 → τ 3 s 0 = nI (oNp τ s) ∧ oNp τ s ≤ 20
theorem oOK.pi {τ : oT} {nS nO nH : Nat} (h : oOK τ nS nO nH) : oPi τ := h.2.2.2.2.2.2
theorem oCpS_3 (τ υ : oT) (r s : Nat) : oCpS τ υ r 3 s 0 = if s = r then υ 3 s 0 else τ 3 s 0 := by
  unfold oCpS
  rw [su_k _ _ _ _ (by decide), su_k _ _ _ _ (by decide)]
  by_cases h : s = r
  · subst h; rw [if_pos rfl, su_s]
  · rw [if_neg h, su_i _ _ _ _ h, sw_k _ _ _ (by decide), sw_k _ _ _ (by decide), sw_k _ _ _ (by decide)]
theorem oCpSs_3 (τ υ : oT) (s : Nat) : ∀ k, oCpSs τ υ k 3 s 0 = if s < k then υ 3 s 0 else τ 3 s 0
  | 0 => rfl
  | k + 1 => by
    rw [oCpSs, oCpS_3, oCpSs_3 τ υ s k]
    by_cases h : s = k
    · subst h; rw [if_pos rfl, if_pos (by omega)]
    · rw [if_neg h]
      by_cases h2 : s < k
      · rw [if_pos h2, if_pos (by omega)]
      · rw [if_neg h2, if_neg (by omega)]
theorem oCpO_k (τ υ : oT) (i : Nat) {a : Nat} (ha : a < 6) : oCpO τ υ i a = τ a := by
  unfold oCpO oCpO4 oCpO3 oCpO2 oCpO1
  rw [su_k _ _ _ _ (by omega), su_k _ _ _ _ (by omega), su_k _ _ _ _ (by omega), su_k _ _ _ _ (by omega), su_k _ _ _ _ (by omega), su_k _ _ _ _ (by omega), su_k _ _ _ _ (by omega), su_k _ _ _ _ (by omega), sw_k _ _ _ (by omega), sw_k _ _ _ (by omega), sw_k _ _ _ (by omega), sw_k _ _ _ (by omega)]
theorem oCpOs_k (τ υ : oT) {a : Nat} (ha : a < 6) : ∀ k, oCpOs τ υ k a = τ a
  | 0 => rfl
  | k + 1 => by rw [oCpOs, oCpO_k _ _ _ ha, oCpOs_k τ υ ha k]
theorem oCpT_3 (τ υ : oT) (nS nO s : Nat) : oCpT τ υ nS nO 3 s 0 = if s < nS then υ 3 s 0 else τ 3 s 0 := by
  unfold oCpT
  rw [oCpOs_k _ _ (by decide), oCpSs_3]
  by_cases h : s < nS
  · rw [if_pos h, if_pos h]
  · rw [if_neg h, if_neg h]; unfold oCp0; rw [su_k _ _ _ _ (by decide), su_k _ _ _ _ (by decide), su_k _ _ _ _ (by decide)]
theorem oCpT_18 (τ υ : oT) (nS nO : Nat) {j : Nat} (hj : j < 3) : oCpT τ υ nS nO 18 0 j = υ 18 0 j := by
  unfold oCpT
  rw [oCpOs_18, oCpSs_18]
  rcases (show j = 0 ∨ j = 1 ∨ j = 2 by omega) with rfl | rfl | rfl <;> rfl
theorem oCpT_ok {α β : oT} {nS nO nH : Nat} (h : oOK α nS nO nH) (hb : oPi β) : oOK (oCpT β α nS nO) nS nO nH := by
  obtain ⟨h1, h2, h3, h4, h5, h6, h7⟩ := h
  refine ⟨?_, h2, ?_, h4, ?_, h6, ?_⟩
  · rw [oCpT_18 _ _ _ _ (by decide)]; exact h1
  · rw [oCpT_18 _ _ _ _ (by decide)]; exact h3
  · rw [oCpT_18 _ _ _ _ (by decide)]; exact h5
  · intro s hs
    unfold oNp
    rw [oCpT_3]
    by_cases h : s < nS
    · rw [if_pos h]; exact h7 s hs
    · rw [if_neg h]; exact hb s hs
/-- the paper -/
def pOK (γ : oT) : Prop := γ 0 0 0 = nI (oN (γ 0 0 0)) ∧ oN (γ 0 0 0) ≤ 320
def kCnt (α γ : oT) (nS nO k : Nat) : Int32 := if k = 7 then γ 0 0 0 else oCount α nS nO k
def oPs (τ : oT) (nS nO nH : Nat) : Nat → Int32
  | 0 => 0
  | k + 1 => oPs τ nS nO nH k + oHourN (oPn τ nS nO nH k) nS nO (nH + k)
def kAv (α β : oT) (nS nO nH i : Nat) (r : Int32) (h : Nat) : Nat → oT × Int32 × Int32
  | 0 => (β, 0, -1)
  | k + 1 =>
    let A := kAv α β nS nO nH i r h k
    let σ := oMove (oCpT A.1 α nS nO) i r (nI k) 0
    let τ := oPn σ nS nO nH h
    if A.2.2 < τ 14 i 0 - σ 14 i 0 then (τ, nI k, τ 14 i 0 - σ 14 i 0) else (τ, A.2.1, A.2.2)
theorem kAv_pi {α β : oT} {nS nO nH i h : Nat} {r : Int32} (hz : oOK α nS nO nH) (hb : oPi β) (hh : nH + h < 1000000) : ∀ k, oPi (kAv α β nS nO nH i r h k).1
  | 0 => hb
  | k + 1 => by
    have h9 := (oPn_ok ((oCpT_ok hz (kAv_pi (i := i) (r := r) hz hb hh k)).of (oMove_kp _ i r (nI k) 0)) h hh).pi
    simp only [kAv]
    split <;> exact h9
def kMix (d : Int64) (x : Int32) : Int64 := d * 31 + x.toInt64
def kMS (α : oT) (nO nH r : Nat) (d : Int64) : Nat → Int64
  | 0 => d
  | k + 1 => kMix (kMS α nO nH r d k) (oSFact α nO nH r k)
def kMT (α : oT) (r : Nat) (d : Int64) : Nat → Int64
  | 0 => d
  | k + 1 => kMix (kMix (kMT α r d k) (α 1 r k)) (α 2 r k)
def kMO (α : oT) (i : Nat) (d : Int64) : Nat → Int64
  | 0 => d
  | k + 1 => kMix (kMO α i d k) (oFact α i k)
def kMB (α : oT) (i : Nat) (d : Int64) : Nat → Int64
  | 0 => d
  | k + 1 => kMix (kMB α i d k) (α 9 i k)
def kD1 (α γ : oT) (nS nO : Nat) : Nat → Int64
  | 0 => 587
  | k + 1 => kMix (kD1 α γ nS nO k) (kCnt α γ nS nO k)
def kD2 (α : oT) (nO nH : Nat) (d : Int64) : Nat → Int64
  | 0 => d
  | k + 1 => kMT α k (kMS α nO nH k (kD2 α nO nH d k) 8) 6
def kD3 (α : oT) (nS : Nat) (d : Int64) : Nat → Int64
  | 0 => d
  | k + 1 => kMB α k (kMO α k (kD3 α nS d k) 11) nS
def kD4 (γ : oT) (d : Int64) : Nat → Int64
  | 0 => d
  | k + 1 => kMix (kD4 γ d k) (γ 1 0 k)
def kDig (α γ : oT) (nS nO nH : Nat) : Int64 := kD4 γ (kD3 α nS (kD2 α nO nH (kD1 α γ nS nO 8) nS) nO) (oN (γ 0 0 0))
/-- a byte written -/
def pW (γ : oT) (x : Int32) : oT := if oN (γ 0 0 0) < 320 then su (su γ 1 0 (oN (γ 0 0 0)) x.toInt8.toInt32) 0 0 0 (nI (oN (γ 0 0 0) + 1)) else γ
theorem pW_ok {γ : oT} (h : pOK γ) (x : Int32) : pOK (pW γ x) := by
  unfold pW
  split
  · unfold pOK
    rw [su_s, oN_nI (by omega)]
    exact ⟨rfl, by omega⟩
  · exact h
/-- a number's digits written, as far as j -/
def kWN (γ : oT) (v N : Nat) : Nat → oT
  | 0 => γ
  | j + 1 => pW (kWN γ v N j) (nI (48 + v / kPw N j % 10))
theorem kWN_ok {γ : oT} (h : pOK γ) (v N : Nat) : ∀ j, pOK (kWN γ v N j)
  | 0 => h
  | j + 1 => pW_ok (kWN_ok h v N j) _
def kNum (γ : oT) (v : Nat) : oT := kWN γ v (oDg v - 1) (oDg v - 1 + 1)
theorem kNum_ok {γ : oT} (h : pOK γ) (v : Nat) : pOK (kNum γ v) := kWN_ok h _ _ _
def kLine (γ : oT) (a b c : Nat) : oT := pW (kNum (pW (kNum (pW (kNum γ a) 32) b) 32) c) 10
theorem kLine_ok {γ : oT} (h : pOK γ) (a b c : Nat) : pOK (kLine γ a b c) := pW_ok (kNum_ok (pW_ok (kNum_ok (pW_ok (kNum_ok h a) _) b) _) c) _
