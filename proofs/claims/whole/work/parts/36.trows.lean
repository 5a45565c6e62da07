/-! methods that read a text and write their own world -/
def PT (G : oG) (ws : va_W) (a v n : Nat) (f : Nat → Int32) (A : Nat → Prop) : State → Prop := fun U => PW G ws U ∧ oSt a v n f A U U.heap ∧ oCS A U U.heap
theorem oT_blind {av : List Value} {G : oG} {ws : va_W} {a v n : Nat} {f : Nat → Int32} {A : Nat → Prop} : FrameBlind (va_Pc av (PT G ws a v n f A)) := fun r U g mk q => by
  obtain ⟨q0, q1, q2, q3⟩ := q
  obtain ⟨-, q4⟩ := o_blind (av := av) (G := G) (ws := ws) r U g mk ⟨q0, q1⟩
  exact ⟨q0, q4, oSt.moved (u := U) (U := U.calling g mk r) (Vm.Alike.refl U.vm) q2, oCS.moved (u := U) (U := U.calling g mk r) (Vm.Alike.refl U.vm) q3⟩
theorem oT_pre {s : State} {H : Heap} {locs : List Loc} {av : List Value} {G : oG} {ws : va_W} {a v n : Nat} {f : Nat → Int32} {A B : Nat → Prop} (hP : va_P G.1 vwCl ws H) (hK : va_K G.1 vwCl (oty G) s) (hN : oNst s) (hS : va_S A s.heap H locs) (hAB : ∀ q, B q → A q) (h1 : oSt a v n f A s s.heap) (h2 : oCS A s s.heap) : ∀ U : State, U.heap = H → s.WarmedH U.vm → va_Pc av (PT G ws a v n f B) av.toArray U :=
  fun U hU hW => ⟨rfl, (o_pre (av := av) hP hK hN U hU hW).2, by rw [hU]; exact ((h1.kept hS.2.1).narrow hAB).moved hW.alike, by rw [hU]; exact ((h2.kept hS.2.1).narrow hAB).moved hW.alike⟩
section OTXT
variable {p : Program} {l : Launch} {e : Env} {R : Room} {s : State} {m : MethodId} {args : Array Value} {below : List Frame} {meth : Method} {c : Code} {H : Heap} {locs : List Loc} {cells slots : Nat} {Q : State → Prop}
  {Ts ws ws' : List Cond} {cc bytes : ByteArray} {nL maxL index nn pc mc ms : Nat} {own C : String} {y : MethodName} {ret : Option FieldType} {rm : Room} {b : Addr} {As rest st : List Value} {G : oG} {wd : va_W} {ls : Array Slot} {r : Option Value} {PH : Heap → Prop} {A B : Nat → Prop} {a v n : Nat} {f : Nat → Int32}
theorem oT_body {vs : List Value} {Qc : Array Value → State → Outcome → State → Prop} {free : Addr → Prop} (hy : plainName y.cls = true) (hw : ws = Cond.code y cc maxL ret :: ws') (hlen : (lg_sl vs).length ≤ maxL)
    (body : ∀ (p : Program) (e : Env) (s : State) (m : MethodId) (below : List Frame) (meth : Method) (c : Code) (ls : Array Slot), p.tables.exec = Jvm.exec → c.code = cc → c.maxLocals = maxL → meth.sig.returnType = ret → meth.locks = false → s.vm.findClass y.cls = some m.cls → (∀ w ∈ ws, w.before vs.toArray s = true) →
      va_P G.1 vwCl wd s.heap → va_K G.1 vwCl (oty G) s → oNst s → oSt a v n f A s s.heap → oCS A s s.heap → lv_has ls maxL (lv_args 0 vs) → W p l e rm s m vs.toArray below meth c s.heap [] 0 0 (MQ below Qc vs.toArray s mc ms free) (F0 m 0 ls [])) : Met l y ws rm (va_Pc vs (PT G wd a v n f A)) Qc mc ms free := by
  refine Met.ofW hy hw ?_
  intro p e s m args below meth c s₁ B hml hv
  obtain ⟨rfl, ⟨hP, hK, hN⟩, hT, hZ⟩ := hv
  rw [lg_entry_eq]
  exact body p e s m below meth c _ B.exec B.bytes hml B.returns B.notSynchronized (findClass_of_methodNamed B.named) (atoms_spec (ws := ws) B.pre) hP hK hN hT hZ (lv_entry vs hlen)
/-- a call of such a method, from one of the same world -/
theorem oT_cV {q0 ci : Nat} {cq : vw_C} {fs : List Value} (As rest : List Value) (S : CallFix p m c cc nL s args Ts own) (hM : Met l y ws rm (va_Pc (.ref b :: As) (PT G wd a v n f A)) (oQ none PH A) 0 0 A) (cw : CallW R s args own C index y bytes maxL ret ws rm 0 0 nn)
    (hK : va_K G.1 vwCl (oty G) s) (hN : oNst s) (hP : va_P G.1 vwCl wd H) (hT : oSt a v n f A s s.heap) (hZ : oCS A s s.heap) (hS : va_S A s.heap H locs) (hc : vwCl[ci]? = some cq) (hC : cq.1 = C) (he : wd[q0]? = some (b, .inr (ci, fs))) (hn : As.length = nn) (hl : ls.size = nL) (hst : st = As.reverse ++ .ref b :: rest) (hW : (rest.map fun v => v.category).sum ≤ 8)
    (hdg : decode cc pc = .ok (.invokevirtual index, 3)) (hf : cells ≤ R.cells ∧ slots ≤ R.slots) (kk : ∀ (H1 : Heap) (locs1 : List Loc), PH H1 → va_S A s.heap H1 locs1 → W p l e R s m args below meth c H1 locs1 cells slots Q (F0 m (pc + 3) ls rest)) : W p l e R s m args below meth c H locs cells slots Q (F0 m pc ls st) := by
  subst hst; subst hC
  exact o_call (mc := 0) (ms := 0) (va_runV (As := As) (rest := rest) (b := b) S hM cw ⟨oT_blind, va_recv hK hP hc he, oT_pre hP hK hN hS (fun _ h => h) hT hZ⟩ rfl hn hl rfl (lv_room hW) hdg hf) hS (fun q _ h => h) (fun q h => h) (fun H1 locs1 h1 _ _ h4 => kk H1 locs1 h1 h4)
end OTXT
/-- a text written on the paper -/
def kText (γ : oT) (f : Nat → Int32) : Nat → oT
  | 0 => γ
  | k + 1 => pW (kText γ f k) (oCh (f k))
theorem kText_ok {γ : oT} (h : pOK γ) (f : Nat → Int32) : ∀ k, pOK (kText γ f k)
  | 0 => h
  | k + 1 => pW_ok (kText_ok h f k) _
