/-! The reference's lines -/
theorem va_OF_of {args : Array Value} {C : String} {T : u_T} {N ci q0 a : Nat} {Ts : List Cond} {s : State} {H : Heap} {D : va_G} {cl : List vw_C} {tys : List (ClassId × FieldType)} {ws : va_W} {A : Nat → Prop} {fs : List Value} {v : Value} (hts : ∀ w ∈ Ts, w.before args s = true) (hin : ∀ w ∈ u_ws C T N, w ∈ Ts) (hK : va_K D cl tys s) (hP : va_P D cl ws H) (he : ws[q0]? = some (a, .inr (ci, fs))) (hc : cl[ci]? = some (C, T, N)) (k : Nat) (hk : k < N) (hA : ¬ A a) (hv : fs[k]? = some v) : va_OF (T k).1 (T k).2.1 (T k).2.2.1 v a A s H := by
  obtain ⟨r, h1, cell, q1, q2, q3, q4⟩ := hP q0 _ he
  have hr : r = (C, T, N) := Option.some.inj (h1.symm.trans hc)
  subst hr
  obtain ⟨hS, hfc, kC, hkC, hkind⟩ := hK.1 ci _ hc
  obtain ⟨cf, kf, fi, f, hi, hsl⟩ := hS k hk
  exact ⟨cf, kf, fi, f, cell, hi, (u_facts hfc hkC (u_lays hts hin hk) hi).1, q1, (by rw [q3]; exact fun h => by cases h), (by rw [hsl, q4 k hk]; simp [vp_V, hv]), hA⟩
theorem oSt_of {args : Array Value} {Ts : List Cond} {s : State} {H : Heap} {G : oG} {A : Nat → Prop} {a q n : Nat} {f : Nat → Int32} (hts : ∀ w ∈ Ts, w.before args s = true) (hin : ∀ w ∈ u_ws RJ0 TJ0 4, w ∈ Ts) (hK : va_K G.1 vwCl (oty G) s) (hP : va_P G.1 vwCl (swS G a q n f) H) (ha : ¬ A a) (hq : ¬ A q) : oSt a q n f A s H := by
  have he : (swS G a q n f)[0]? = some (a, .inr (0, [.ref q, .int 0, .int 0, .int 0])) := rfl
  refine ⟨?_, ?_, ?_, ?_⟩
  · obtain ⟨cell, h1, h2, h3⟩ := va_recv (ci := 0) hK hP rfl he
    exact ⟨cell, h1, h2, h3, ha⟩
  · exact va_OF_of hts hin hK hP he rfl 1 (by decide) ha rfl
  · exact va_OF_of hts hin hK hP he rfl 0 (by decide) ha rfl
  · exact va_T_of hK (t0 := 3) rfl hP (q0 := 1) rfl hq
section OTXN
variable {p : Program} {l : Launch} {e : Env} {R : Room} {s : State} {m : MethodId} {args : Array Value} {below : List Frame} {meth : Method} {c : Code} {H : Heap} {locs : List Loc} {cells slots : Nat} {Q : State → Prop}
  {Ts ws : List Cond} {cc bytes : ByteArray} {nL maxL index nn pc : Nat} {own C : String} {y : MethodName} {ret : Option FieldType} {rm : Room} {b : Addr} {As rest st : List Value} {G : oG} {wd : va_W} {ls : Array Slot} {PH : Heap → Prop} {A B : Nat → Prop} {a v n : Nat} {f : Nat → Int32}
/-- a call of a method that reads a text of now -/
theorem oT_cVn {q0 ci : Nat} {cq : vw_C} {fs : List Value} (As rest : List Value) (S : CallFix p m c cc nL s args Ts own) (hM : Met l y ws rm (va_Pc (.ref b :: As) (PT G wd a v n f B)) (oQ none PH B) 0 0 B) (cw : CallW R s args own C index y bytes maxL ret ws rm 0 0 nn)
    (hK : va_K G.1 vwCl (oty G) s) (hN : oNst s) (hP : va_P G.1 vwCl wd H) (hT : oSt a v n f B s H) (hZ : oCS A s s.heap) (hS : va_S A s.heap H locs) (hBA : ∀ q, B q → A q) (hc : vwCl[ci]? = some cq) (hC : cq.1 = C) (he : wd[q0]? = some (b, .inr (ci, fs))) (hn : As.length = nn) (hl : ls.size = nL) (hst : st = As.reverse ++ .ref b :: rest) (hW : (rest.map fun v => v.category).sum ≤ 8)
    (hdg : decode cc pc = .ok (.invokevirtual index, 3)) (hf : cells ≤ R.cells ∧ slots ≤ R.slots) (kk : ∀ (H1 : Heap) (locs1 : List Loc), PH H1 → H.size ≤ H1.size → (∀ q : Nat, q < H.size → ¬ B q → H1[q]? = H[q]?) → va_S A s.heap H1 locs1 → W p l e R s m args below meth c H1 locs1 cells slots Q (F0 m (pc + 3) ls rest)) : W p l e R s m args below meth c H locs cells slots Q (F0 m pc ls st) := by
  subst hst; subst hC
  exact o_call (mc := 0) (ms := 0) (va_runV (As := As) (rest := rest) (b := b) S hM cw ⟨oT_blind, va_recv hK hP hc he, fun U hU hW => ⟨rfl, (o_pre (av := .ref b :: As) hP hK hN U hU hW).2, by rw [hU]; exact hT.moved hW.alike, by rw [hU]; exact ((hZ.kept hS.2.1).narrow hBA).moved hW.alike⟩⟩ rfl hn hl rfl (lv_room hW) hdg hf) hS (fun q _ h => hBA q h) hBA (fun H1 locs1 h1 h2 h3 h4 => kk H1 locs1 h1 h2 h3 h4)
end OTXN
/-- how long a line is, what it holds -/
def lnN (a b c : Nat) : Nat := 0 + sD a + 1 + sD b + 1 + sD c
def lnT (t : Nat → Int32) (a b c : Nat) : Nat → Int32 := dA (va_cpy t (dA (va_cpy t (dA (fun _ => 0) 0 a) 0 (0 + sD a) 1) (0 + sD a + 1) b) 0 (0 + sD a + 1 + sD b) 1) (0 + sD a + 1 + sD b + 1) c
def lnS (t : Nat → Int32) (a b c : Nat) : Nat → Int32 := va_cpy (lnT t a b c) (fun _ => 0) 0 0 (lnN a b c)
theorem bfit_dA {f : Nat → Int32} {n u : Nat} (h : bfit f n) : bfit (dA f n u) (n + sD u) := by
  intro j hj
  unfold dA dP
  split
  · unfold dgt
    have : ∀ d, d < 10 → fits .byte (.int (nI (48 + d))) = true := by decide +kernel
    exact this _ (Nat.mod_lt _ (by decide))
  · exact h j (by omega)
theorem bfit_cpy {f t : Nat → Int32} {n k : Nat} (h : bfit f n) (ht : bfit t k) : bfit (va_cpy t f 0 n k) (n + k) := by
  intro j hj
  by_cases c : n ≤ j
  · rw [pk_cpy_in c (by omega)]
    exact ht _ (by omega)
  · rw [pk_cpy_out (by omega)]
    exact h j (by omega)
theorem bfit_0 (f : Nat → Int32) : bfit f 0 := fun j hj => by omega
theorem lnT_fit {t : Nat → Int32} (h : bfit t 1) (a b c : Nat) : bfit (lnT t a b c) (lnN a b c) := bfit_dA (bfit_cpy (bfit_dA (bfit_cpy (bfit_dA (bfit_0 _)) h)) h)
/-- a line written -/
def mLine (t : Nat → Int32) (A : oT × Nat) (a b c : Nat) : oT × Nat := (mWrT A.1 A.2 (lnN a b c) (lnS t a b c), A.2 + lnN a b c + 1)
def mCS (τ : oT) (t : Nat → Int32) (nO : Nat) (A : oT × Nat) : Nat → oT × Nat
  | 0 => A
  | k + 1 => mLine t (mCS τ t nO A k) k (oN (qStandN τ (nI k) nO)) (oN (τ 4 0 k))
def mCO (τ : oT) (t : Nat → Int32) (A : oT × Nat) : Nat → oT × Nat
  | 0 => A
  | k + 1 => mLine t (mCO τ t A k) k (oN (τ 10 0 k)) (qTu τ k)
theorem mWrT_p (γ : oT) (nP n : Nat) (f : Nat → Int32) : mWrT γ nP n f 41 0 1 = nI (nP + n + 1) := by unfold mWrT; rw [su_s]
def wOK (A : oT × Nat) (B : Nat) : Prop := A.1 41 0 1 = nI A.2 ∧ A.2 ≤ B
theorem sD_1 {u : Nat} (h : u < 10) : sD u = 1 := by
  have : ∀ u, u < 10 → sD u = 1 := by decide +kernel
  exact this u h
theorem mLine_ok {t : Nat → Int32} {A : oT × Nat} {B a b c : Nat} (h : wOK A B) (hl : lnN a b c ≤ 14) : wOK (mLine t A a b c) (B + 15) := ⟨mWrT_p A.1 A.2 (lnN a b c) (lnS t a b c), by have := h.2; show A.2 + lnN a b c + 1 ≤ B + 15; omega⟩
theorem qStandN_8 {τ : oT} {x : Int32} {n : Nat} (hn : n ≤ 8) : qStandN τ x n = nI (oN (qStandN τ x n)) ∧ oN (qStandN τ x n) ≤ 8 := by
  obtain ⟨c, h1, h2, -⟩ := qStandN_0 τ x n
  rw [h2, oN_nI (by omega)]
  exact ⟨rfl, by omega⟩
theorem lnN_s {τ : oT} {nO k : Nat} (hk : k < 10) (hn : nO ≤ 8) : lnN k (oN (qStandN τ (nI k) nO)) (oN (τ 4 0 k)) ≤ 14 := by
  have h1 := sD_1 hk
  have h2 := sD_1 (u := oN (qStandN τ (nI k) nO)) (by have := (qStandN_8 (τ := τ) (x := nI k) hn).2; omega)
  have h3 := sD_10 (u := oN (τ 4 0 k)) oN_lt
  unfold lnN
  omega
theorem mCS_ok {τ : oT} {t : Nat → Int32} {nO B : Nat} {A : oT × Nat} (hn : nO ≤ 8) (h : wOK A B) : ∀ k, k ≤ 6 → wOK (mCS τ t nO A k) (B + 15 * k)
  | 0, _ => h
  | k + 1, hk => by
    rw [mCS, show B + 15 * (k + 1) = B + 15 * k + 15 by omega]
    exact mLine_ok (mCS_ok hn h k (by omega)) (lnN_s (by omega) hn)
theorem lnN_o {k c u : Nat} (hk : k < 10) (hu : u < 10) (hc : c < 2 ^ 31) : lnN k c u ≤ 14 := by
  have h1 := sD_1 hk
  have h2 := sD_1 hu
  have h3 := sD_10 hc
  unfold lnN
  omega
theorem mCO_ok {τ : oT} {t : Nat → Int32} {nS nO nH B : Nat} {A : oT × Nat} (hq : qOK τ nS nO nH) (h : wOK A B) : ∀ k, k ≤ nO → wOK (mCO τ t A k) (B + 15 * k)
  | 0, _ => h
  | k + 1, hk => by
    have hv := rV_of hq k (by omega)
    have h8 := hq.2.2.2.1
    rw [mCO, show B + 15 * (k + 1) = B + 15 * k + 15 by omega]
    exact mLine_ok (mCO_ok hq h k (by omega)) (lnN_o (by omega) (by have := (oTu_lt hv.2.1 hv.2.2).1; unfold qTu; omega) oN_lt)
/-- what the reference's census finds -/
def oCM (G : oG) (sz a1 v1 : Nat) (f1 : Nat → Int32) (a2 v2 : Nat) (f2 : Nat → Int32) (a9 w9 : Nat) (t : Nat → Int32) (t1 t2 : Nat) (U : State) : Prop := oBE a9 w9 1 t t1 t2 (mN G sz) U U.heap ∧ oSt a1 v1 19 f1 (mN G sz) U U.heap ∧ oSt a2 v2 16 f2 (mN G sz) U U.heap ∧ vk_R RX6 167 "street organs coins" a1 U ∧ vk_R RX6 189 "organ coins tune" a2 U ∧ vk_R RX6 180 " " a9 U ∧ sz ≤ U.heap.size
