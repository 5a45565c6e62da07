/-! A TEXT BUILDER OF THE JDK: an object b, its bytes v, sixteen of them, c written: f 0, f 1 .. -/
def bw (G : oG) (b v : Nat) (c : Int32) (f : Nat → Int32) : va_W := [(b, .inr (1, [.ref v, .int 0, .int 0, .int c])), (v, .inl (G.2.2 3, 16, .inl f))]
theorem bw_0 (G : oG) (b v : Nat) (c : Int32) (f : Nat → Int32) : (bw G b v c f)[0]? = some (b, .inr (1, [.ref v, .int 0, .int 0, .int c])) := rfl
theorem bw_1 (G : oG) (b v : Nat) (c : Int32) (f : Nat → Int32) : (bw G b v c f)[1]? = some (v, .inl (G.2.2 3, 16, .inl f)) := rfl
theorem bw_c (G : oG) (b v : Nat) (c x : Int32) (f : Nat → Int32) : (bw G b v c f).set 0 (b, .inr (1, [.ref v, .int 0, .int 0, .int x])) = bw G b v x f := rfl
theorem bw_f (G : oG) (b v : Nat) (c : Int32) (f g : Nat → Int32) : (bw G b v c f).set 1 (v, .inl (G.2.2 3, 16, .inl g)) = bw G b v c g := rfl
def bA (b v : Nat) : Nat → Prop := fun q => q = b ∨ q = v
def bF : Nat → Prop := fun _ => False
theorem bw_D {G : oG} {b v : Nat} {c : Int32} {f : Nat → Int32} (h : b ≠ v) : va_D (bA b v) (bw G b v c f) := by
  refine ⟨fun i j p q hi hj hh => ?_, fun k q hk => ?_⟩
  · match i, j with
    | 0, 0 => rfl
    | 1, 1 => rfl
    | 0, 1 =>
      rw [bw_0] at hi; rw [bw_1] at hj
      cases hi; cases hj; exact absurd hh h
    | 1, 0 =>
      rw [bw_1] at hi; rw [bw_0] at hj
      cases hi; cases hj; exact absurd hh.symm h
    | (i + 2), _ => simp [bw] at hi
    | 0, (j + 2) => simp [bw] at hj
    | 1, (j + 2) => simp [bw] at hj
  · match k with
    | 0 => rw [bw_0] at hk; cases hk; exact Or.inl rfl
    | 1 => rw [bw_1] at hk; cases hk; exact Or.inr rfl
    | (k + 2) => simp [bw] at hk
/-- the digits' tables -/
def oDT (t1 t2 : Nat) (A : Nat → Prop) (U : State) (H : Heap) : Prop := va_Z RJ6 "DigitOnes" "[B" (.ref t1) A U H ∧ va_T .byte t1 100 (fun k => .int (nI (48 + k % 10))) A U H ∧ va_Z RJ6 "DigitTens" "[B" (.ref t2) A U H ∧ va_T .byte t2 100 (fun k => .int (nI (48 + k / 10))) A U H
theorem oDT.moved {t1 t2 : Nat} {A : Nat → Prop} {u U : State} {H : Heap} (hvm : u.vm.Alike U.vm) (h : oDT t1 t2 A u H) : oDT t1 t2 A U H := ⟨va_Z.moved hvm h.1, h.2.1.moved hvm, va_Z.moved hvm h.2.2.1, h.2.2.2.moved hvm⟩
theorem oDT.kept {t1 t2 : Nat} {A : Nat → Prop} {U : State} {H H1 : Heap} (h : oDT t1 t2 A U H) (hq : ∀ a : Nat, a < H.size → ¬ A a → H1[a]? = H[a]?) : oDT t1 t2 A U H1 := ⟨va_Z.kept h.1 hq, h.2.1.kept hq, va_Z.kept h.2.2.1 hq, h.2.2.2.kept hq⟩
theorem oDT.narrow {t1 t2 : Nat} {A B : Nat → Prop} {U : State} {H : Heap} (h : oDT t1 t2 A U H) (hAB : ∀ q, B q → A q) : oDT t1 t2 B U H := ⟨va_Z.narrow h.1 hAB, h.2.1.narrow hAB, va_Z.narrow h.2.2.1 hAB, h.2.2.2.narrow hAB⟩
/-- what a builder's methods find: the statics, the digits, a text a of k letters t -/
def oBE (a w k : Nat) (t : Nat → Int32) (t1 t2 : Nat) (A : Nat → Prop) (U : State) (H : Heap) : Prop := oCS A U H ∧ oDT t1 t2 A U H ∧ oSt a w k t A U H
theorem oBE.moved {a w k t1 t2 : Nat} {t : Nat → Int32} {A : Nat → Prop} {u U : State} {H : Heap} (hvm : u.vm.Alike U.vm) (h : oBE a w k t t1 t2 A u H) : oBE a w k t t1 t2 A U H := ⟨h.1.moved hvm, h.2.1.moved hvm, h.2.2.moved hvm⟩
theorem oBE.kept {a w k t1 t2 : Nat} {t : Nat → Int32} {A : Nat → Prop} {U : State} {H H1 : Heap} (h : oBE a w k t t1 t2 A U H) (hq : ∀ a : Nat, a < H.size → ¬ A a → H1[a]? = H[a]?) : oBE a w k t t1 t2 A U H1 := ⟨h.1.kept hq, h.2.1.kept hq, h.2.2.kept hq⟩
theorem oBE.narrow {a w k t1 t2 : Nat} {t : Nat → Int32} {A B : Nat → Prop} {U : State} {H : Heap} (h : oBE a w k t t1 t2 A U H) (hAB : ∀ q, B q → A q) : oBE a w k t t1 t2 B U H := ⟨h.1.narrow hAB, h.2.1.narrow hAB, h.2.2.narrow hAB⟩
def PB (G : oG) (ws : va_W) (sz a w k : Nat) (t : Nat → Int32) (t1 t2 : Nat) (A : Nat → Prop) : State → Prop := fun U => PW G ws U ∧ oBE a w k t t1 t2 A U U.heap ∧ sz ≤ U.heap.size
theorem oB_blind {av : List Value} {G : oG} {ws : va_W} {sz a w k t1 t2 : Nat} {t : Nat → Int32} {A : Nat → Prop} : FrameBlind (va_Pc av (PB G ws sz a w k t t1 t2 A)) := fun r U g mk q => by
  obtain ⟨q0, q1, q2, q3⟩ := q
  obtain ⟨-, q4⟩ := o_blind (av := av) (G := G) (ws := ws) r U g mk ⟨q0, q1⟩
  exact ⟨q0, q4, oBE.moved (u := U) (U := U.calling g mk r) (Vm.Alike.refl U.vm) q2, q3⟩
theorem oB_pre {s : State} {H : Heap} {locs : List Loc} {av : List Value} {G : oG} {ws : va_W} {sz a w k t1 t2 : Nat} {t : Nat → Int32} {A B : Nat → Prop} (hP : va_P G.1 vwCl ws H) (hK : va_K G.1 vwCl (oty G) s) (hN : oNst s) (hE : oBE a w k t t1 t2 A s s.heap) (hS : va_S A s.heap H locs) (hAB : ∀ q, B q → A q) (hz : sz ≤ H.size) : ∀ U : State, U.heap = H → s.WarmedH U.vm → va_Pc av (PB G ws sz a w k t t1 t2 B) av.toArray U :=
  fun U hU hW => ⟨rfl, (o_pre (av := av) hP hK hN U hU hW).2, by rw [hU]; exact ((hE.kept hS.2.1).narrow hAB).moved hW.alike, by rw [hU]; exact hz⟩
/-- an answer that is a new cell -/
def oQx (P : Nat → Heap → Prop) (A : Nat → Prop) : Array Value → State → Outcome → State → Prop := fun _ st o t => ∃ a, o = .returned (some (.ref a)) ∧ P a t.heap ∧ va_F A st t
section OBUILD
variable {p : Program} {l : Launch} {e : Env} {R : Room} {s : State} {m : MethodId} {args : Array Value} {below : List Frame} {meth : Method} {c : Code} {H : Heap} {locs : List Loc} {cells slots : Nat} {Q : State → Prop}
  {Ts ws ws' : List Cond} {cc bytes : ByteArray} {nL maxL index n mc ms pc sz a w k t1 t2 : Nat} {own C owner : String} {x y : MethodName} {ret : Option FieldType} {rm : Room} {t : Nat → Int32}
  {b : Addr} {As rest st : List Value} {G : oG} {wd : va_W} {ls : Array Slot} {r : Option Value} {PH : Heap → Prop} {PX : Nat → Heap → Prop} {A A0 B : Nat → Prop} {H0 : Heap} {free : Addr → Prop}
theorem o_callx {a9 : Array Value} {st0 : List Value} (hr : va_Run p l e R s m args below meth c H locs cells slots mc ms (F0 m pc ls st0) rest (oQx PX A a9) free) (hS : va_S A0 H0 H locs) (hA : ∀ q, q < H.size → A q → A0 q) (hf : ∀ q, free q → A0 q)
    (kk : ∀ (a : Nat) (H1 : Heap) (locs1 : List Loc), PX a H1 → H.size ≤ H1.size → (∀ q : Nat, q < H.size → ¬ A q → H1[q]? = H[q]?) → va_S A0 H0 H1 locs1 → W p l e R s m args below meth c H1 locs1 (cells + mc) (slots + ms) Q (F0 m (pc + 3) ls (.ref a :: rest))) : W p l e R s m args below meth c H locs cells slots Q (F0 m pc ls st0) := by
  intro T hT X
  obtain ⟨v, st₀, t, T', L, h0, X', hL, e1, e2, ⟨a, hv, hp, hz, hk⟩, sg⟩ := hr T hT X
  cases hv
  rw [h0] at hz hk
  obtain ⟨t2, a1, b1⟩ := kk a T'.heap (locs ++ L) (by rw [e1]; exact hp) (by rw [e1]; exact hz) (fun q h1 h2 => by rw [e1]; exact hk q h1 h2)
    ⟨Nat.le_trans hS.1 (by rw [e1]; exact hz), fun q h1 h2 => by rw [e1, hk q (Nat.lt_of_lt_of_le h1 hS.1) (fun z => h2 (hA q (Nat.lt_of_lt_of_le h1 hS.1) z))]; exact hS.2.1 q h1 h2, fun q hq => by
      rcases List.mem_append.mp hq with h | h
      · exact hS.2.2 q h
      · exact hf _ (hL q h)⟩ T' rfl X'
  exact ⟨t2, sg t2 a1, b1⟩
theorem oB_cV {q0 ci : Nat} {cq : vw_C} {fs : List Value} (As rest : List Value) (S : CallFix p m c cc nL s args Ts own) (hM : Met l y ws rm (va_Pc (.ref b :: As) (PB G wd sz a w k t t1 t2 B)) (oQ r PH B) mc ms B) (cw : CallW R s args own C index y bytes maxL ret ws rm mc ms n)
    (hK : va_K G.1 vwCl (oty G) s) (hN : oNst s) (hP : va_P G.1 vwCl wd H) (hE : oBE a w k t t1 t2 A s s.heap) (hS : va_S A s.heap H locs) (hAB : ∀ q, B q → A q) (hz : sz ≤ H.size) (hc : vwCl[ci]? = some cq) (hC : cq.1 = C) (he : wd[q0]? = some (b, .inr (ci, fs))) (hn : As.length = n) (hl : ls.size = nL) (hst : st = As.reverse ++ .ref b :: rest) (hW : (rest.map fun v => v.category).sum ≤ 8)
    (hdg : decode cc pc = .ok (.invokevirtual index, 3)) (hf : cells + mc ≤ R.cells ∧ slots + ms ≤ R.slots) (kk : ∀ (H1 : Heap) (locs1 : List Loc), PH H1 → H.size ≤ H1.size → (∀ q : Nat, q < H.size → ¬ B q → H1[q]? = H[q]?) → va_S A s.heap H1 locs1 → W p l e R s m args below meth c H1 locs1 (cells + mc) (slots + ms) Q (F0 m (pc + 3) ls (r.toList ++ rest))) : W p l e R s m args below meth c H locs cells slots Q (F0 m pc ls st) := by
  subst hst; subst hC
  exact o_call (va_runV (As := As) (rest := rest) (b := b) S hM cw ⟨oB_blind, va_recv hK hP hc he, oB_pre hP hK hN hE hS hAB hz⟩ rfl hn hl rfl (lv_room hW) hdg hf) hS (fun q _ h => hAB q h) hAB kk
theorem oB_cU {q0 ci : Nat} {cq : vw_C} {fs : List Value} (As rest : List Value) (S : CallFix p m c cc nL s args Ts own) (hM : Met l y ws rm (va_Pc (.ref b :: As) (PB G wd sz a w k t t1 t2 B)) (oQ r PH B) mc ms B) (cw : va_CU R s args own C owner index x y bytes maxL ret ws rm mc ms n)
    (hK : va_K G.1 vwCl (oty G) s) (hN : oNst s) (hP : va_P G.1 vwCl wd H) (hE : oBE a w k t t1 t2 A s s.heap) (hS : va_S A s.heap H locs) (hAB : ∀ q, B q → A q) (hz : sz ≤ H.size) (hc : vwCl[ci]? = some cq) (hC : cq.1 = C) (he : wd[q0]? = some (b, .inr (ci, fs))) (hn : As.length = n) (hl : ls.size = nL) (hst : st = As.reverse ++ .ref b :: rest) (hW : (rest.map fun v => v.category).sum ≤ 8)
    (hdg : decode cc pc = .ok (.invokevirtual index, 3)) (hf : cells + mc ≤ R.cells ∧ slots + ms ≤ R.slots) (kk : ∀ (H1 : Heap) (locs1 : List Loc), PH H1 → H.size ≤ H1.size → (∀ q : Nat, q < H.size → ¬ B q → H1[q]? = H[q]?) → va_S A s.heap H1 locs1 → W p l e R s m args below meth c H1 locs1 (cells + mc) (slots + ms) Q (F0 m (pc + 3) ls (r.toList ++ rest))) : W p l e R s m args below meth c H locs cells slots Q (F0 m pc ls st) := by
  subst hst; subst hC
  exact o_call (va_runU (As := As) (rest := rest) (b := b) S hM cw ⟨oB_blind, va_recv hK hP hc he, oB_pre hP hK hN hE hS hAB hz⟩ rfl hn hl rfl (lv_room hW) hdg hf) hS (fun q _ h => hAB q h) hAB kk
theorem oB_cSU {q0 ci : Nat} {cq : vw_C} {fs : List Value} {cC : ClassId} (As rest : List Value) (hat : ClassAt s C cC) (S : CallFix p m c cc nL s args Ts own) (hM : Met l y ws rm (va_Pc (.ref b :: As) (PB G wd sz a w k t t1 t2 B)) (oQ r PH B) mc ms B) (cw : va_CS R s args own index y bytes maxL ret ws rm mc ms n)
    (hK : va_K G.1 vwCl (oty G) s) (hN : oNst s) (hP : va_P G.1 vwCl wd H) (hE : oBE a w k t t1 t2 A s s.heap) (hS : va_S A s.heap H locs) (hAB : ∀ q, B q → A q) (hz : sz ≤ H.size) (hc : vwCl[ci]? = some cq) (hC : cq.1 = C) (he : wd[q0]? = some (b, .inr (ci, fs))) (hn : As.length = n) (hl : ls.size = nL) (hst : st = As.reverse ++ .ref b :: rest) (hW : (rest.map fun v => v.category).sum ≤ 8)
    (hdg : decode cc pc = .ok (.invokespecial index, 3)) (hf : cells + mc ≤ R.cells ∧ slots + ms ≤ R.slots) (kk : ∀ (H1 : Heap) (locs1 : List Loc), PH H1 → H.size ≤ H1.size → (∀ q : Nat, q < H.size → ¬ B q → H1[q]? = H[q]?) → va_S A s.heap H1 locs1 → W p l e R s m args below meth c H1 locs1 (cells + mc) (slots + ms) Q (F0 m (pc + 3) ls (r.toList ++ rest))) : W p l e R s m args below meth c H locs cells slots Q (F0 m pc ls st) := by
  subst hst; subst hC
  exact o_call (va_runSU (As := As) (rest := rest) (b := b) hat S hM cw ⟨oB_blind, va_recv hK hP hc he, oB_pre hP hK hN hE hS hAB hz⟩ rfl hn hl rfl (lv_room hW) hdg hf) hS (fun q _ h => hAB q h) hAB kk
theorem oB_cS (As rest : List Value) (S : CallFix p m c cc nL s args Ts own) (hM : Met l y ws rm (va_Pc As (PB G wd sz a w k t t1 t2 B)) (oQ r PH B) mc ms B) (cw : CallB R s args own index y bytes maxL ret ws rm mc ms n ∧ (Cond.static y).before args s = true)
    (hK : va_K G.1 vwCl (oty G) s) (hN : oNst s) (hP : va_P G.1 vwCl wd H) (hE : oBE a w k t t1 t2 A s s.heap) (hS : va_S A s.heap H locs) (hAB : ∀ q, B q → A q) (hz : sz ≤ H.size) (hn : As.length = n) (hl : ls.size = nL) (hst : st = As.reverse ++ rest) (hW : (rest.map fun v => v.category).sum ≤ 8)
    (hdg : decode cc pc = .ok (.invokestatic index, 3)) (hf : cells + mc ≤ R.cells ∧ slots + ms ≤ R.slots) (kk : ∀ (H1 : Heap) (locs1 : List Loc), PH H1 → H.size ≤ H1.size → (∀ q : Nat, q < H.size → ¬ B q → H1[q]? = H[q]?) → va_S A s.heap H1 locs1 → W p l e R s m args below meth c H1 locs1 (cells + mc) (slots + ms) Q (F0 m (pc + 3) ls (r.toList ++ rest))) : W p l e R s m args below meth c H locs cells slots Q (F0 m pc ls st) := by
  subst hst
  exact o_call (va_runS (As := As) (rest := rest) S hM cw ⟨oB_blind, oB_pre hP hK hN hE hS hAB hz⟩ rfl hn hl rfl (lv_room hW) hdg hf) hS (fun q _ h => hAB q h) hAB kk
theorem oB_cI (As rest : List Value) (S : CallFix p m c cc nL s args Ts own) (hM : Met l y ws rm (va_Pc (.ref b :: As) (PB G wd sz a w k t t1 t2 B)) (oQ none PH B) mc ms B) (cw : CallB R s args own index y bytes maxL none ws rm mc ms n ∧ y.name = "<init>" ∧ (Cond.instanceMethod y).before args s = true)
    (hK : va_K G.1 vwCl (oty G) s) (hN : oNst s) (hP : va_P G.1 vwCl wd H) (hE : oBE a w k t t1 t2 A s s.heap) (hS : va_S A s.heap H locs) (hAB : ∀ q, B q → A q) (hz : sz ≤ H.size) (hn : As.length = n) (hl : ls.size = nL) (hst : st = As.reverse ++ .ref b :: rest) (hW : (rest.map fun v => v.category).sum ≤ 8)
    (hdg : decode cc pc = .ok (.invokespecial index, 3)) (hf : cells + mc ≤ R.cells ∧ slots + ms ≤ R.slots) (kk : ∀ (H1 : Heap) (locs1 : List Loc), PH H1 → H.size ≤ H1.size → (∀ q : Nat, q < H.size → ¬ B q → H1[q]? = H[q]?) → va_S A s.heap H1 locs1 → W p l e R s m args below meth c H1 locs1 (cells + mc) (slots + ms) Q (F0 m (pc + 3) ls rest)) : W p l e R s m args below meth c H locs cells slots Q (F0 m pc ls st) := by
  subst hst
  exact o_call (va_runI (As := As) (rest := rest) (b := b) S hM cw ⟨oB_blind, oB_pre hP hK hN hE hS hAB hz⟩ rfl hn hl rfl (lv_room hW) hdg hf) hS (fun q _ h => hAB q h) hAB (fun H1 locs1 h1 h2 h3 h4 => kk H1 locs1 h1 h2 h3 h4)
theorem oB_cVx {q0 ci : Nat} {cq : vw_C} {fs : List Value} (As rest : List Value) (S : CallFix p m c cc nL s args Ts own) (hM : Met l y ws rm (va_Pc (.ref b :: As) (PB G wd sz a w k t t1 t2 B)) (oQx PX B) mc ms B) (cw : CallW R s args own C index y bytes maxL ret ws rm mc ms n)
    (hK : va_K G.1 vwCl (oty G) s) (hN : oNst s) (hP : va_P G.1 vwCl wd H) (hE : oBE a w k t t1 t2 A s s.heap) (hS : va_S A s.heap H locs) (hAB : ∀ q, B q → A q) (hz : sz ≤ H.size) (hc : vwCl[ci]? = some cq) (hC : cq.1 = C) (he : wd[q0]? = some (b, .inr (ci, fs))) (hn : As.length = n) (hl : ls.size = nL) (hst : st = As.reverse ++ .ref b :: rest) (hW : (rest.map fun v => v.category).sum ≤ 8)
    (hdg : decode cc pc = .ok (.invokevirtual index, 3)) (hf : cells + mc ≤ R.cells ∧ slots + ms ≤ R.slots) (kk : ∀ (a : Nat) (H1 : Heap) (locs1 : List Loc), PX a H1 → H.size ≤ H1.size → (∀ q : Nat, q < H.size → ¬ B q → H1[q]? = H[q]?) → va_S A s.heap H1 locs1 → W p l e R s m args below meth c H1 locs1 (cells + mc) (slots + ms) Q (F0 m (pc + 3) ls (.ref a :: rest))) : W p l e R s m args below meth c H locs cells slots Q (F0 m pc ls st) := by
  subst hst; subst hC
  exact o_callx (va_runV (As := As) (rest := rest) (b := b) S hM cw ⟨oB_blind, va_recv hK hP hc he, oB_pre hP hK hN hE hS hAB hz⟩ rfl hn hl rfl (lv_room hW) hdg hf) hS (fun q _ h => hAB q h) hAB kk
theorem oB_cSx (As rest : List Value) (S : CallFix p m c cc nL s args Ts own) (hM : Met l y ws rm (va_Pc As (PB G wd sz a w k t t1 t2 B)) (oQx PX B) mc ms B) (cw : CallB R s args own index y bytes maxL ret ws rm mc ms n ∧ (Cond.static y).before args s = true)
    (hK : va_K G.1 vwCl (oty G) s) (hN : oNst s) (hP : va_P G.1 vwCl wd H) (hE : oBE a w k t t1 t2 A s s.heap) (hS : va_S A s.heap H locs) (hAB : ∀ q, B q → A q) (hz : sz ≤ H.size) (hn : As.length = n) (hl : ls.size = nL) (hst : st = As.reverse ++ rest) (hW : (rest.map fun v => v.category).sum ≤ 8)
    (hdg : decode cc pc = .ok (.invokestatic index, 3)) (hf : cells + mc ≤ R.cells ∧ slots + ms ≤ R.slots) (kk : ∀ (a : Nat) (H1 : Heap) (locs1 : List Loc), PX a H1 → H.size ≤ H1.size → (∀ q : Nat, q < H.size → ¬ B q → H1[q]? = H[q]?) → va_S A s.heap H1 locs1 → W p l e R s m args below meth c H1 locs1 (cells + mc) (slots + ms) Q (F0 m (pc + 3) ls (.ref a :: rest))) : W p l e R s m args below meth c H locs cells slots Q (F0 m pc ls st) := by
  subst hst
  exact o_callx (va_runS (As := As) (rest := rest) S hM cw ⟨oB_blind, oB_pre hP hK hN hE hS hAB hz⟩ rfl hn hl rfl (lv_room hW) hdg hf) hS (fun q _ h => hAB q h) hAB kk
/-- a method's start -/
theorem oB_body {vs : List Value} {Qc : Array Value → State → Outcome → State → Prop} (hy : plainFor y = true) (hw : ws = Cond.code y cc maxL ret :: ws') (hlen : (lg_sl vs).length ≤ maxL)
    (body : ∀ (p : Program) (e : Env) (s : State) (m : MethodId) (below : List Frame) (meth : Method) (c : Code) (ls : Array Slot), p.tables.exec = Jvm.exec → c.code = cc → c.maxLocals = maxL → meth.sig.returnType = ret → meth.locks = false → s.vm.findClass y.cls = some m.cls → (∀ w ∈ ws, w.before vs.toArray s = true) →
      va_P G.1 vwCl wd s.heap → va_K G.1 vwCl (oty G) s → oNst s → oBE a w k t t1 t2 A s s.heap → sz ≤ s.heap.size → lv_has ls maxL (lv_args 0 vs) → W p l e rm s m vs.toArray below meth c s.heap [] 0 0 (MQ below Qc vs.toArray s mc ms free) (F0 m 0 ls [])) : Met l y ws rm (va_Pc vs (PB G wd sz a w k t t1 t2 A)) Qc mc ms free := by
  refine o_ofWF hy hw ?_
  intro p e s m args below meth c s₁ B hml hv
  obtain ⟨rfl, ⟨hP, hK, hN⟩, hE, hz⟩ := hv
  rw [lg_entry_eq]
  exact body p e s m below meth c _ B.exec B.bytes hml B.returns B.notSynchronized (findClass_of_methodNamed B.named) (atoms_spec (ws := ws) B.pre) hP hK hN hE hz (lv_entry vs hlen)
theorem o_zretM {v r : Int32} (hx : p.tables.exec = Jvm.exec) (hb : c.code = cc) (hr : meth.sig.returnType = some .boolean) (hlocks : meth.locks = false) (hS : va_S A s.heap H locs) (hdg : decode cc pc = .ok (.ireturn, 1)) (hz : v = 0 ∨ v = 1) (hp : PH H) (he : v = r) : W p l e R s m args below meth c H locs cells slots (MQ below (oQ (some (.int r)) PH A) args s cells slots A) (F0 m pc ls [.int v]) :=
  W.zret hx hb hr (by rcases hz with rfl | rfl <;> rfl) (fun t ht _ => ⟨by rw [he], by rw [ht]; exact hp, hS.F ht⟩) hS.2.2 hdg hlocks
theorem o_aretM {v : Nat} {rt : FieldType} (hx : p.tables.exec = Jvm.exec) (hb : c.code = cc) (hr : meth.sig.returnType = some rt) (hrt : (∃ n, rt = .object n) ∨ ∃ t, rt = .array t) (hlocks : meth.locks = false) (hS : va_S A s.heap H locs) (hdg : decode cc pc = .ok (.areturn, 1)) (hp : PH H) : W p l e R s m args below meth c H locs cells slots (MQ below (oQ (some (.ref v)) PH A) args s cells slots A) (F0 m pc ls [.ref v]) :=
  W.aret hx hb hr hrt (Or.inr ⟨_, rfl⟩) (fun t ht _ => ⟨rfl, by rw [ht]; exact hp, hS.F ht⟩) hS.2.2 hdg hlocks
theorem o_aretx {v : Nat} {rt : FieldType} (hx : p.tables.exec = Jvm.exec) (hb : c.code = cc) (hr : meth.sig.returnType = some rt) (hrt : (∃ n, rt = .object n) ∨ ∃ t, rt = .array t) (hlocks : meth.locks = false) (hS : va_S A s.heap H locs) (hdg : decode cc pc = .ok (.areturn, 1)) (hp : PX v H) : W p l e R s m args below meth c H locs cells slots (MQ below (oQx PX A) args s cells slots A) (F0 m pc ls [.ref v]) :=
  W.aret hx hb hr hrt (Or.inr ⟨_, rfl⟩) (fun t ht _ => ⟨v, rfl, by rw [ht]; exact hp, hS.F ht⟩) hS.2.2 hdg hlocks
end OBUILD
