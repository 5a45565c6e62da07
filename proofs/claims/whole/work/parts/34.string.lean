/-! Strings: an object at a, its letters f 0 .. f (n - 1), Latin-1 -/
def oSt (a v n : Nat) (f : Nat → Int32) (A : Nat → Prop) (U : State) (H : Heap) : Prop := va_O RJ0 a A U H ∧ va_OF RJ0 "coder" "B" (.int 0) a A U H ∧ va_OF RJ0 "value" "[B" (.ref v) a A U H ∧ va_T .byte v n (fun j => .int (f j)) A U H
theorem oSt.moved {a v n : Nat} {f : Nat → Int32} {A : Nat → Prop} {u U : State} {H : Heap} (hvm : u.vm.Alike U.vm) (h : oSt a v n f A u H) : oSt a v n f A U H := by
  obtain ⟨h1, h2, h3, h4⟩ := h
  exact ⟨h1.moved hvm, h2.moved hvm, h3.moved hvm, h4.moved hvm⟩
theorem oSt.kept {a v n : Nat} {f : Nat → Int32} {A : Nat → Prop} {U : State} {H H1 : Heap} (h : oSt a v n f A U H) (hq : ∀ a : Nat, a < H.size → ¬ A a → H1[a]? = H[a]?) : oSt a v n f A U H1 := by
  obtain ⟨h1, h2, h3, h4⟩ := h
  exact ⟨h1.kept hq, h2.kept hq, h3.kept hq, h4.kept hq⟩
theorem oSt.narrow {a v n : Nat} {f : Nat → Int32} {A B : Nat → Prop} {U : State} {H : Heap} (h : oSt a v n f A U H) (hAB : ∀ q, B q → A q) : oSt a v n f B U H := by
  obtain ⟨h1, h2, h3, h4⟩ := h
  exact ⟨h1.narrow hAB, h2.narrow hAB, h3.narrow hAB, h4.narrow hAB⟩
/-- the statics that a String's methods look at -/
def oCS (A : Nat → Prop) (U : State) (H : Heap) : Prop := va_Z RJ0 "COMPACT_STRINGS" "Z" (.int 1) A U H ∧ va_Zq "jdk/internal/util/Preconditions" "SIOOBE_FORMATTER" "Ljava/util/function/BiFunction;" A U H
theorem oCS.moved {A : Nat → Prop} {u U : State} {H : Heap} (hvm : u.vm.Alike U.vm) (h : oCS A u H) : oCS A U H := ⟨va_Z.moved hvm h.1, va_Zq.moved hvm h.2⟩
theorem oCS.kept {A : Nat → Prop} {U : State} {H H1 : Heap} (h : oCS A U H) (hq : ∀ a : Nat, a < H.size → ¬ A a → H1[a]? = H[a]?) : oCS A U H1 := ⟨va_Z.kept h.1 hq, va_Zq.kept h.2 hq⟩
theorem oCS.narrow {A B : Nat → Prop} {U : State} {H : Heap} (h : oCS A U H) (hAB : ∀ q, B q → A q) : oCS B U H := ⟨va_Z.narrow h.1 hAB, va_Zq.narrow h.2 hAB⟩
/-- a String in hand, for a method that reads -/
def oSR (a v n : Nat) (f : Nat → Int32) : State → Prop := fun U => oSt a v n f (fun _ => False) U U.heap ∧ oCS (fun _ => False) U U.heap
theorem oS_blind {av : List Value} {a v n : Nat} {f : Nat → Int32} : FrameBlind (va_Pc av (oSR a v n f)) := fun r U g mk q => by
  obtain ⟨q0, q1, q2⟩ := q
  exact ⟨q0, oSt.moved (u := U) (U := U.calling g mk r) (Vm.Alike.refl U.vm) q1, oCS.moved (u := U) (U := U.calling g mk r) (Vm.Alike.refl U.vm) q2⟩
theorem oS_pre {s : State} {H : Heap} {locs : List Loc} {av : List Value} {a v n : Nat} {f : Nat → Int32} {A : Nat → Prop} (hS : va_S A s.heap H locs) (h1 : oSt a v n f A s s.heap) (h2 : oCS A s s.heap) : ∀ U : State, U.heap = H → s.WarmedH U.vm → va_Pc av (oSR a v n f) av.toArray U :=
  fun U hU hW => ⟨rfl, by rw [hU]; exact ((h1.kept hS.2.1).narrow (fun _ h => h.elim)).moved hW.alike, by rw [hU]; exact ((h2.kept hS.2.1).narrow (fun _ h => h.elim)).moved hW.alike⟩
theorem oS_recv {s : State} {H : Heap} {locs : List Loc} {a v n : Nat} {f : Nat → Int32} {A : Nat → Prop} (hS : va_S A s.heap H locs) (h1 : oSt a v n f A s s.heap) : ∃ cell : Cell, H[a]? = some cell ∧ cell.vm.isStatics = false ∧ s.vm.findClass RJ0 = some cell.cls := by
  obtain ⟨h, -⟩ := h1.kept hS.2.1
  obtain ⟨cell, h1, h2, h3, -⟩ := h
  exact ⟨cell, h1, h2, h3⟩
section OSTR
variable {p : Program} {l : Launch} {e : Env} {R : Room} {s : State} {m : MethodId} {args : Array Value} {below : List Frame} {meth : Method} {c : Code} {H : Heap} {locs : List Loc} {cells slots : Nat} {Q : State → Prop}
  {Ts ws ws' : List Cond} {cc bytes : ByteArray} {nL maxL index nn pc : Nat} {own : String} {y : MethodName} {ret : Option FieldType} {rm : Room} {As rest st : List Value} {ls : Array Slot} {r : Option Value} {A : Nat → Prop} {a v n : Nat} {f : Nat → Int32}
/-- a call of a String's method -/
theorem oS_cV (As rest : List Value) (S : CallFix p m c cc nL s args Ts own) (hM : Met l y ws rm (va_Pc (.ref a :: As) (oSR a v n f)) (oR r) 0 0 (fun _ => False)) (cw : CallW R s args own RJ0 index y bytes maxL ret ws rm 0 0 nn)
    (hT : oSt a v n f A s s.heap) (hZ : oCS A s s.heap) (hS : va_S A s.heap H locs) (hn : As.length = nn) (hl : ls.size = nL) (hst : st = As.reverse ++ .ref a :: rest) (hW : (rest.map fun v => v.category).sum ≤ 8)
    (hdg : decode cc pc = .ok (.invokevirtual index, 3)) (hf : cells ≤ R.cells ∧ slots ≤ R.slots) (kk : W p l e R s m args below meth c H locs cells slots Q (F0 m (pc + 3) ls (r.toList ++ rest))) : W p l e R s m args below meth c H locs cells slots Q (F0 m pc ls st) := by
  subst hst
  exact o_callR (W.runV (As := As) (rest := rest) (b := a) S hM cw ⟨oS_blind, oS_recv hS hT, oS_pre hS hT hZ⟩ rfl hn hl rfl (lv_room hW) hdg hf) kk
theorem oS_cS (As rest : List Value) (S : CallFix p m c cc nL s args Ts own) (hM : Met l y ws rm (va_Pc As (oSR a v n f)) (oR r) 0 0 (fun _ => False)) (cw : CallB R s args own index y bytes maxL ret ws rm 0 0 nn ∧ (Cond.static y).before args s = true)
    (hT : oSt a v n f A s s.heap) (hZ : oCS A s s.heap) (hS : va_S A s.heap H locs) (hn : As.length = nn) (hl : ls.size = nL) (hst : st = As.reverse ++ rest) (hW : (rest.map fun v => v.category).sum ≤ 8)
    (hdg : decode cc pc = .ok (.invokestatic index, 3)) (hf : cells ≤ R.cells ∧ slots ≤ R.slots) (kk : W p l e R s m args below meth c H locs cells slots Q (F0 m (pc + 3) ls (r.toList ++ rest))) : W p l e R s m args below meth c H locs cells slots Q (F0 m pc ls st) := by
  subst hst
  exact o_callR (W.runS (As := As) (rest := rest) S hM cw ⟨oS_blind, oS_pre hS hT hZ⟩ rfl hn hl rfl (lv_room hW) hdg hf) kk
theorem oS_body {vs : List Value} {Qc : Array Value → State → Outcome → State → Prop} {free : Addr → Prop} (hy : plainFor y = true) (hw : ws = Cond.code y cc maxL ret :: ws') (hlen : (lg_sl vs).length ≤ maxL)
    (body : ∀ (p : Program) (e : Env) (s : State) (m : MethodId) (below : List Frame) (meth : Method) (c : Code) (ls : Array Slot), p.tables.exec = Jvm.exec → c.code = cc → c.maxLocals = maxL → meth.sig.returnType = ret → meth.locks = false → s.vm.findClass y.cls = some m.cls → (∀ w ∈ ws, w.before vs.toArray s = true) →
      oSt a v n f (fun _ => False) s s.heap → oCS (fun _ => False) s s.heap → lv_has ls maxL (lv_args 0 vs) → W p l e rm s m vs.toArray below meth c s.heap [] 0 0 (MQ below Qc vs.toArray s 0 0 free) (F0 m 0 ls [])) : Met l y ws rm (va_Pc vs (oSR a v n f)) Qc 0 0 free := by
  refine o_ofWF hy hw ?_
  intro p e s m args below meth c s₁ B hml hv
  obtain ⟨rfl, hT, hZ⟩ := hv
  rw [lg_entry_eq]
  exact body p e s m below meth c _ B.exec B.bytes hml B.returns B.notSynchronized (findClass_of_methodNamed B.named) (atoms_spec (ws := ws) B.pre) hT hZ (lv_entry vs hlen)
end OSTR
