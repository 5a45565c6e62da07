/-! Objects made: their cells stand one after another from the heap's end -/
def ga (a : Nat) : Nat → Nat := fun k => a + k
abbrev qw (a N : Nat) (f : Nat → va_E) : va_W := wl (ga a) N f
theorem ga_I (a N : Nat) : wl_I (ga a) N := fun i j _ _ h => by simp only [ga] at h; omega
theorem qw_D (a N : Nat) (f : Nat → va_E) : va_D (fun q => a ≤ q) (qw a N f) := wl_D (ga_I a N) (fun k _ => Nat.le_add_right a k)
theorem qw_app {a N : Nat} {f : Nat → va_E} {x : va_E} {z : Nat} (hz : z = a + N) (hf : f N = x) : qw a N f ++ [(z, x)] = qw a (N + 1) f := by
  subst hz; subst hf
  simp [qw, wl, List.range_succ, ga]
theorem qw_join {D : va_G} {cl : List vw_C} {a N M : Nat} {f g : Nat → va_E} {H : Heap} (h1 : va_P D cl (qw a N f) H) (h2 : va_P D cl (qw (a + N) M g) H) (hg : ∀ j, j < M → g j = f (N + j)) : va_P D cl (qw a (N + M) f) H := by
  intro k q hk
  obtain ⟨hl, rfl⟩ := wl_get hk
  by_cases h : k < N
  · exact h1 k _ (wl_at h rfl)
  · have h3 := h2 (k - N) _ (wl_at (show k - N < M by omega) (hg (k - N) (by omega)))
    rw [show N + (k - N) = k by omega] at h3
    have e : ga (a + N) (k - N) = ga a k := by simp only [ga]; omega
    rw [e] at h3
    exact h3
theorem qw_congr {D : va_G} {cl : List vw_C} {a N : Nat} {f g : Nat → va_E} {H : Heap} (h : va_P D cl (qw a N f) H) (he : ∀ k, k < N → f k = g k) : va_P D cl (qw a N g) H := by
  rw [show qw a N g = qw a N f from (wl_congr he).symm]; exact h
/-- the object itself first, then its parts -/
def o0 (ci : Nat) (fs : List Value) (F : Nat → va_E) : Nat → va_E := fun k => if k = 0 then .inr (ci, fs) else F k
theorem qw_set0 {a N ci : Nat} {fs fs' : List Value} {F : Nat → va_E} : (qw a N (o0 ci fs F)).set 0 (a, .inr (ci, fs')) = qw a N (o0 ci fs' F) := by
  have h := wl_set (g := ga a) (N := N) (f := o0 ci fs F) (f' := o0 ci fs' F) (k := 0) (e := .inr (ci, fs')) (fun j _ => by
    by_cases hj : j = 0
    · rw [if_pos hj, o0, if_pos hj]
    · rw [if_neg hj, o0, o0, if_neg hj, if_neg hj])
  exact h
theorem qw_at0 {a N ci : Nat} {fs : List Value} {F : Nat → va_E} (h : 0 < N) : (qw a N (o0 ci fs F))[0]? = some (a, .inr (ci, fs)) := wl_at h rfl
/-- a constructor's start: its object alone, at the heap's end -/
def PK (G : oG) (ws : va_W) (sz : Nat) : State → Prop := fun U => PW G ws U ∧ U.heap.size = sz ∧ va_AO RX2 U ∧ va_AO RX0 U
theorem oK_blind {av : List Value} {G : oG} {ws : va_W} {sz : Nat} : FrameBlind (va_Pc av (PK G ws sz)) := fun r U g mk q => by
  obtain ⟨q0, q1, q2, q3, q5⟩ := q
  obtain ⟨-, q4⟩ := o_blind (av := av) (G := G) (ws := ws) r U g mk ⟨q0, q1⟩
  exact ⟨q0, q4, q2, va_AO.moved (u := U) (U := U.calling g mk r) (Vm.Alike.refl U.vm) q3, va_AO.moved (u := U) (U := U.calling g mk r) (Vm.Alike.refl U.vm) q5⟩
theorem oK_pre {s : State} {H : Heap} {av : List Value} {G : oG} {ws : va_W} {sz : Nat} (hP : va_P G.1 vwCl ws H) (hK : va_K G.1 vwCl (oty G) s) (hN : oNst s) (hz : H.size = sz) (h2 : va_AO RX2 s) (h0 : va_AO RX0 s) : ∀ U : State, U.heap = H → s.WarmedH U.vm → va_Pc av (PK G ws sz) av.toArray U :=
  fun U hU hW => ⟨rfl, (o_pre (av := av) hP hK hN U hU hW).2, by rw [hU]; exact hz, va_AO.moved hW.alike h2, va_AO.moved hW.alike h0⟩
/-- a heap behind a change has the same size, where no cell was made -/
def sFrom (a : Nat) : Nat → Prop := fun q => a ≤ q
section OINIT
variable {p : Program} {l : Launch} {e : Env} {R : Room} {s : State} {m : MethodId} {args : Array Value} {below : List Frame} {meth : Method} {c : Code} {H : Heap} {locs : List Loc} {cells slots pc : Nat} {Q : State → Prop}
  {cc bytes : ByteArray} {G : oG} {ls : Array Slot} {rest : List Value} {a N : Nat} {f : Nat → va_E}
theorem o_ub {g : JFrame} (h : H.size ≤ s.heap.size + cells → W p l e R s m args below meth c H locs cells slots Q g) : W p l e R s m args below meth c H locs cells slots Q g :=
  fun T hT X => h (by have h9 := X.heapSize; rw [hT] at h9; exact h9) T hT X
theorem sS_here {A : Nat → Prop} (hS : va_S A s.heap H locs) : va_S A H H locs := ⟨Nat.le_refl _, fun _ _ _ => rfl, hS.2.2⟩
theorem sS_on {A : Nat → Prop} {H1 : Heap} {locs1 : List Loc} (hS : va_S A s.heap H locs) (h1 : va_S A H H1 locs1) : va_S A s.heap H1 locs1 :=
  ⟨Nat.le_trans hS.1 h1.1, fun q hq hn => (h1.2.1 q (Nat.lt_of_lt_of_le hq hS.1) hn).trans (hS.2.1 q hq hn), h1.2.2⟩
theorem k_newP (hx : p.tables.exec = Jvm.exec) (hb : c.code = cc) {atype : ArrayType} (harr : (Cond.arrayClass (newarray.typeOf atype)).before args s = true) {ty : FieldType} (hty : newarray.typeOf atype = ty) (hK : va_K G.1 vwCl (oty G) s) (hP : va_P G.1 vwCl (qw a N f) H) (hz : H.size = a + N) (hS : va_S (sFrom a) s.heap H locs) (t0 : Nat) {cK : ClassId} (ht : (oty G)[t0]? = some (cK, ty))
    {n : Int32} {N' : Nat} {a0 : vp_A} (ha : ∀ cA : ClassId, vp_cell cA a0 = arrV cA N' (fun _ => defaultValue ty)) (hf : f N = .inl (cK, a0)) (hn : ¬ n < 0) (hN : n.toNatClampNeg = N') (hbytes : N' * componentBytes ty ≤ 536870912) (hcells : cells + 1 ≤ R.cells) (hslots : slots + N' ≤ R.slots) (hdg : decode cc pc = .ok (.newarray atype, 2))
    (kk : ∀ H1 : Heap, va_P G.1 vwCl (qw a (N + 1) f) H1 → H1.size = a + (N + 1) → va_S (sFrom a) s.heap H1 locs →
      W p l e R s m args below meth c H1 locs (cells + 1) (slots + N') Q (F0 m (pc + 2) ls (.ref (a + N) :: rest))) : W p l e R s m args below meth c H locs cells slots Q (F0 m pc ls (.int n :: rest)) := by
  refine o_newP hx hb harr hty hK hP hS t0 ht ha hn hN hbytes hcells hslots hdg (fun H1 h1 h2 _ h4 => ?_)
  rw [qw_app hz hf] at h1
  rw [hz] at h2 ⊢
  exact kk H1 h1 h2 h4
theorem k_newC {own C : String} {T : u_T} {n ci index : Nat} {Ts : List Cond} (hx : p.tables.exec = Jvm.exec) (hb : c.code = cc) (hts : ∀ w ∈ Ts, w.before args s = true) (hin : ∀ w ∈ u_ws C T n, w ∈ Ts) (ty : Nat → FieldType) (hty : ∀ k, k < n → parseFieldDescriptor (T k).2.2.1 = some (ty k)) (hown : s.vm.findClass own = some m.cls) (hcl : (Cond.classLink own index C).before args s = true) (hinst : (Cond.instantiable C n).before args s = true) (hini : (Cond.initialized C).before args s = true)
    (hK : va_K G.1 vwCl (oty G) s) (hP : va_P G.1 vwCl (qw a N f) H) (hz : H.size = a + N) (hS : va_S (sFrom a) s.heap H locs) (hc : vwCl[ci]? = some (C, T, n)) {fs : List Value} (hfs : ∀ j, j < n → defaultValue (ty j) = vp_V fs j) (hcells : cells + 1 ≤ R.cells) (hslots : slots + n ≤ R.slots) (hdg : decode cc pc = .ok (.new index, 3))
    (kk : ∀ H1 : Heap, va_P G.1 vwCl (qw a N f) H1 → va_P G.1 vwCl [(a + N, .inr (ci, fs))] H1 → H1.size = a + (N + 1) → va_S (sFrom a) s.heap H1 locs →
      W p l e R s m args below meth c H1 locs (cells + 1) (slots + n) Q (F0 m (pc + 3) ls (.ref (a + N) :: rest))) : W p l e R s m args below meth c H locs cells slots Q (F0 m pc ls rest) := by
  refine o_newC hx hb hts hin ty hty hown hcl hinst hini hK hP hS hc hfs hcells hslots hdg (fun H1 h1 h2 _ h4 => ?_)
  rw [hz] at h1 h2 ⊢
  exact kk H1 (ol_split h1).1 (ol_split h1).2 h2 h4
theorem k_newR (hx : p.tables.exec = Jvm.exec) (hb : c.code = cc) {own C : String} {index : Nat} (hown : s.vm.findClass own = some m.cls) (hcl : (Cond.classLink own index C).before args s = true) (hover : va_AO C s) (hK : va_K G.1 vwCl (oty G) s) (hP : va_P G.1 vwCl (qw a N f) H) (hz : H.size = a + N) (hS : va_S (sFrom a) s.heap H locs) (t0 : Nat) {cK : ClassId} (ht : (oty G)[t0]? = some (cK, .object C))
    {n : Int32} {N' : Nat} (hf : f N = .inl (cK, N', .inr (.inr (.inr (.inr (fun _ => none)))))) (hn : ¬ n < 0) (hN : n.toNatClampNeg = N') (hbytes : N' * 4 ≤ 536870912) (hcells : cells + 1 ≤ R.cells) (hslots : slots + N' ≤ R.slots) (hdg : decode cc pc = .ok (.anewarray index, 3))
    (kk : ∀ H1 : Heap, va_P G.1 vwCl (qw a (N + 1) f) H1 → H1.size = a + (N + 1) → va_S (sFrom a) s.heap H1 locs →
      W p l e R s m args below meth c H1 locs (cells + 1) (slots + N') Q (F0 m (pc + 3) ls (.ref (a + N) :: rest))) : W p l e R s m args below meth c H locs cells slots Q (F0 m pc ls (.int n :: rest)) := by
  subst hN
  refine W.anew hx hb hown hcl (va_AO.use hover) rfl hdg rfl hn hbytes hcells hslots fun cA kA comp f1 _ _ _ => ?_
  generalize hH1 : H.push ({ cls := cA, slots := Array.replicate n.toNatClampNeg .null, vm := .none } : Cell) = H1
  have z1 : H1.size = H.size + 1 := by rw [← hH1, Array.size_push]
  have e1 : H1[H.size]? = some (arrV cA n.toNatClampNeg (fun _ => .null)) := by rw [← hH1, Array.getElem?_push_size, ← arrV_new]
  have o1 : ∀ q : Nat, q < H.size → H1[q]? = H[q]? := fun q hq => by rw [← hH1, Array.getElem?_push, if_neg (Nat.ne_of_lt hq)]
  have hk : ∀ (k : Nat) (x : Nat × va_E), (qw a N f)[k]? = some x → H1[x.1]? = H[x.1]? := fun k x hx => o1 x.1 ((hP k x hx).lt)
  have ec : cA = cK := Option.some.inj (f1.symm.trans (va_nmO (hK.2 t0 _ ht).2 rfl))
  subst ec
  have h1 : va_P G.1 vwCl (qw a N f ++ [(H.size, .inl (cA, n.toNatClampNeg, .inr (.inr (.inr (.inr (fun _ => none))))))]) H1 := (hP.kept hk).app (fun k x hx => by
    have hz : k < 1 := (List.getElem?_eq_some_iff.mp hx).1
    rw [show k = 0 by omega] at hx
    cases hx
    show H1[H.size]? = some (vp_cell _ _)
    rw [vp_cell_q]
    exact e1)
  rw [qw_app hz hf] at h1
  have hS1 : va_S (sFrom a) s.heap H1 locs := ⟨Nat.le_trans hS.1 (by omega), fun x h1 h2 => (o1 x (Nat.lt_of_lt_of_le h1 hS.1)).trans (hS.2.1 x h1 h2), hS.2.2⟩
  have h9 := kk H1 h1 (by omega) hS1
  rw [← hz] at h9
  exact h9
/-- a final field of the object itself -/
theorem k_put {own ref C : String} {T : u_T} {n ci index : Nat} {Ts : List Cond} {F : Nat → va_E} {fs : List Value} (hin2 : meth.name = "<init>") (hx : p.tables.exec = Jvm.exec) (hb : c.code = cc) (hts : ∀ w ∈ Ts, w.before args s = true) (hin : ∀ w ∈ u_ws C T n, w ∈ Ts) (ty0 : Nat → FieldType) (hty : ∀ k, k < n → parseFieldDescriptor (T k).2.2.1 = some (ty0 k)) (hnm : ∀ a, a < n → ∀ b, b < n → a ≠ b → (T a).2.1 ≠ (T b).2.1) (hown : s.vm.findClass own = some m.cls) (hK : va_K G.1 vwCl (oty G) s) (hP : va_P G.1 vwCl (qw a N (o0 ci fs F)) H) (hz : H.size = a + N) (hN0 : 0 < N) (hsz : s.heap.size + cells = a + N) (hS : va_S (sFrom a) s.heap H locs) (hc : vwCl[ci]? = some (C, T, n)) (k : Nat) (hk : k < n) (hlink : (Cond.fieldLink own index ref (T k).2.1 (T k).2.2.1).before args s = true) (hsame : ∀ x, s.fieldFound? (T k).1 (T k).2.1 (T k).2.2.1 = some x → s.fieldFound? ref (T k).2.1 (T k).2.2.1 = some x) (hfin : (T k).2.2.2 = true) (hdecl : (T k).1 = own) {ty : FieldType} {v : Value} (hd : parseFieldDescriptor (T k).2.2.1 = some ty) (hn : narrow ty v = v) (hfit : fits ty v = true) (hl : k < fs.length)
    (hdg : decode cc pc = .ok (.putfield index, 3)) (kk : ∀ (H1 : Heap) (locs1 : List Loc), va_P G.1 vwCl (qw a N (o0 ci (fs.set k v) F)) H1 → H1.size = a + N → va_S (sFrom a) s.heap H1 locs1 → W p l e R s m args below meth c H1 locs1 cells slots Q (F0 m (pc + 3) ls rest)) : W p l e R s m args below meth c H locs cells slots Q (F0 m pc ls (v :: .ref a :: rest)) := by
  refine va_putF hx hb hts hin ty0 hty hnm hown hK hP (qw_D a N _) (sS_here hS) 0 (qw_at0 hN0) hc k hk hlink hsame hfin hin2 hdecl hd hn hfit hl hdg (fun H1 locs1 h1 _ h3 => o_ub fun h4 => ?_)
  rw [qw_set0] at h1
  exact kk H1 locs1 h1 (by have := h3.1; omega) (sS_on hS h3)
/-- a call of another constructor -/
theorem k_call {own : String} {index n mc ms nL maxL b sz : Nat} {y : MethodName} {ws Ts : List Cond} {rm : Room} {wd : va_W} {PH : Heap → Prop} {st : List Value} (As rest : List Value) (S : CallFix p m c cc nL s args Ts own) (hM : Met l y ws rm (va_Pc (.ref b :: As) (PK G wd sz)) (oQ none PH (sFrom b)) mc ms (sFrom b)) (cw : CallB R s args own index y bytes maxL none ws rm mc ms n ∧ y.name = "<init>" ∧ (Cond.instanceMethod y).before args s = true)
    (hK : va_K G.1 vwCl (oty G) s) (hN : oNst s) (h2 : va_AO RX2 s) (h0 : va_AO RX0 s) (hP : va_P G.1 vwCl (qw a N f) H) (hPn : va_P G.1 vwCl wd H) (hz : H.size = sz) (hsz : b + 1 = sz) (hba : b = a + N) (hS : va_S (sFrom a) s.heap H locs) (hn : As.length = n) (hl : ls.size = nL) (hst : st = As.reverse ++ .ref b :: rest) (hW : (rest.map fun v => v.category).sum ≤ 8)
    (hdg : decode cc pc = .ok (.invokespecial index, 3)) (hf : cells + mc ≤ R.cells ∧ slots + ms ≤ R.slots) (kk : ∀ (H1 : Heap) (locs1 : List Loc), PH H1 → va_P G.1 vwCl (qw a N f) H1 → H1.size ≤ s.heap.size + (cells + mc) → va_S (sFrom a) s.heap H1 locs1 → W p l e R s m args below meth c H1 locs1 (cells + mc) (slots + ms) Q (F0 m (pc + 3) ls rest)) : W p l e R s m args below meth c H locs cells slots Q (F0 m pc ls st) := by
  subst hst
  have hAB : ∀ q, sFrom b q → sFrom a q := fun q h => by simp only [sFrom] at h ⊢; omega
  refine o_call (va_runI (As := As) (rest := rest) (b := b) S hM cw ⟨oK_blind, oK_pre hPn hK hN hz h2 h0⟩ rfl hn hl rfl (lv_room hW) hdg hf) hS (fun q _ h => hAB q h) hAB (fun H1 locs1 h1 _ h3 h4 => o_ub fun h5 => kk H1 locs1 h1 ?_ h5 h4)
  exact hP.kept fun k x hx => h3 _ (hP k x hx).lt (by obtain ⟨hk, rfl⟩ := wl_get hx; simp only [sFrom, ga]; omega)
end OINIT
section OINIT2
variable {l : Launch} {G : oG} {a : Nat}
theorem k_body {ws ws' : List Cond} {cc : ByteArray} {maxL mc ms sz : Nat} {y : MethodName} {ret : Option FieldType} {rm : Room} {wd : va_W} {free : Addr → Prop} {vs : List Value} {Qc : Array Value → State → Outcome → State → Prop} (hy : plainFor y = true) (hyn : y.name = "<init>") (hw : ws = Cond.code y cc maxL ret :: ws') (hlen : (lg_sl vs).length ≤ maxL)
    (body : ∀ (p : Program) (e : Env) (s : State) (m : MethodId) (below : List Frame) (meth : Method) (c : Code) (ls : Array Slot), p.tables.exec = Jvm.exec → c.code = cc → c.maxLocals = maxL → meth.sig.returnType = ret → meth.locks = false → meth.name = "<init>" → s.vm.findClass y.cls = some m.cls → (∀ w ∈ ws, w.before vs.toArray s = true) →
      va_P G.1 vwCl wd s.heap → va_K G.1 vwCl (oty G) s → oNst s → s.heap.size = sz → va_AO RX2 s → va_AO RX0 s → lv_has ls maxL (lv_args 0 vs) → W p l e rm s m vs.toArray below meth c s.heap [] 0 0 (MQ below Qc vs.toArray s mc ms free) (F0 m 0 ls [])) : Met l y ws rm (va_Pc vs (PK G wd sz)) Qc mc ms free := by
  refine o_ofWF hy hw ?_
  intro p e s m args below meth c s₁ B hml hv
  obtain ⟨rfl, ⟨hP, hK, hN⟩, hz, h2, h0⟩ := hv
  rw [lg_entry_eq]
  exact body p e s m below meth c _ B.exec B.bytes hml B.returns B.notSynchronized ((name_of_methodNamed B.named B.method).1.trans hyn) (findClass_of_methodNamed B.named) (atoms_spec (ws := ws) B.pre) hP hK hN hz h2 h0 (lv_entry vs hlen)
end OINIT2
section OINIT3
variable {p : Program} {l : Launch} {e : Env} {R : Room} {s : State} {m : MethodId} {args : Array Value} {below : List Frame} {meth : Method} {c : Code} {H : Heap} {locs : List Loc} {cells slots pc : Nat} {Q : State → Prop}
  {cc bytes : ByteArray} {G : oG} {ls : Array Slot} {rest : List Value} {a N : Nat} {f : Nat → va_E}
theorem k_callN {own host : String} {index n mc ms nL maxL b sz : Nat} {y : MethodName} {ws Ts : List Cond} {rm : Room} {wd : va_W} {PH : Heap → Prop} {st : List Value} (As rest : List Value) (S : CallFix p m c cc nL s args Ts own) (hM : Met l y ws rm (va_Pc (.ref b :: As) (PK G wd sz)) (oQ none PH (sFrom b)) mc ms (sFrom b)) (cw : va_CN R s args own index y host bytes maxL none ws rm mc ms n ∧ y.name = "<init>" ∧ (Cond.instanceMethod y).before args s = true)
    (hK : va_K G.1 vwCl (oty G) s) (hN : oNst s) (h2 : va_AO RX2 s) (h0 : va_AO RX0 s) (hP : va_P G.1 vwCl (qw a N f) H) (hPn : va_P G.1 vwCl wd H) (hz : H.size = sz) (hsz : b + 1 = sz) (hba : b = a + N) (hS : va_S (sFrom a) s.heap H locs) (hn : As.length = n) (hl : ls.size = nL) (hst : st = As.reverse ++ .ref b :: rest) (hW : (rest.map fun v => v.category).sum ≤ 8)
    (hdg : decode cc pc = .ok (.invokespecial index, 3)) (hf : cells + mc ≤ R.cells ∧ slots + ms ≤ R.slots) (kk : ∀ (H1 : Heap) (locs1 : List Loc), PH H1 → va_P G.1 vwCl (qw a N f) H1 → H1.size ≤ s.heap.size + (cells + mc) → va_S (sFrom a) s.heap H1 locs1 → W p l e R s m args below meth c H1 locs1 (cells + mc) (slots + ms) Q (F0 m (pc + 3) ls rest)) : W p l e R s m args below meth c H locs cells slots Q (F0 m pc ls st) := by
  subst hst
  have hAB : ∀ q, sFrom b q → sFrom a q := fun q h => by simp only [sFrom] at h ⊢; omega
  refine o_call (va_runIN (As := As) (rest := rest) (b := b) S hM cw ⟨oK_blind, oK_pre hPn hK hN hz h2 h0⟩ rfl hn hl rfl (lv_room hW) hdg hf) hS (fun q _ h => hAB q h) hAB (fun H1 locs1 h1 _ h3 h4 => o_ub fun h5 => kk H1 locs1 h1 ?_ h5 h4)
  exact hP.kept fun k x hx => h3 _ (hP k x hx).lt (by obtain ⟨hk, rfl⟩ := wl_get hx; simp only [sFrom, ga]; omega)
end OINIT3
