/-! the law's own methods: a face called, its answer laid in the out array, its refusal caught -/
def lw1 (G : oG) (ao : Nat) (f : Nat → Int64) : va_W := [(ao, .inl (G.2.2 5, 1, .inr (.inl f)))]
def oNCL : List (String × String) := [(oXI, oXA), (oXI, oXS), (oXA, oXI), (oXA, oXS), (oXS, oXI), (oXS, oXA)]
def oNc (U : State) : Prop := ∀ q ∈ oNCL, va_Nc q.1 q.2 U
theorem oNc.moved {u U : State} (h : u.vm.Alike U.vm) (hn : oNc u) : oNc U := fun q hq => va_Nc.moved h (hn q hq)
def PL (G : oG) (ws : va_W) (ao : Nat) (f : Nat → Int64) : State → Prop := fun U => PX G ws U ∧ va_P G.1 vwCl (lw1 G ao f) U.heap ∧ oNc U
/-- what a law's method may write -/
def oL (G : oG) (ao : Nat) : Nat → Prop := fun q => oA G q ∨ q = ao
theorem oL_D {G : oG} {Z : oZ} {ao : Nat} {f : Nat → Int64} (hI : wl_I G.2.1 137) (hao : ¬ oA G ao) : va_D (oL G ao) (cw G Z ++ lw1 G ao f) := by
  refine va_D.app ((cw_D G Z hI).weaken (fun k q _ h => Or.inl h)) ⟨fun i j p q hi hj h => ?_, fun k q hk => ?_⟩ (fun i j x y hx hy hxy => ?_)
  · have h1 := (List.getElem?_eq_some_iff.mp hi).1
    have h2 := (List.getElem?_eq_some_iff.mp hj).1
    have e : (lw1 G ao f).length = 1 := rfl
    omega
  · match k, hk with
    | 0, hk => cases hk; exact Or.inr rfl
  · match j, hy with
    | 0, hy =>
      cases hy
      exact hao (by have h9 := (cw_D G Z hI).2 i x hx; rw [show x.1 = ao from hxy] at h9; exact h9)
theorem ol_split {D : va_G} {cl : List vw_C} {w1 w2 : va_W} {H : Heap} (h : va_P D cl (w1 ++ w2) H) : va_P D cl w1 H ∧ va_P D cl w2 H := by
  refine ⟨fun k q hk => h k q (by rw [List.getElem?_append_left (List.getElem?_eq_some_iff.mp hk).1]; exact hk), fun k q hk => h (w1.length + k) q (by rw [List.getElem?_append_right (Nat.le_add_right _ _), Nat.add_sub_cancel_left]; exact hk)⟩
theorem ol_keep {G : oG} {ao : Nat} {f : Nat → Int64} {H H1 : Heap} {A : Nat → Prop} (h : va_P G.1 vwCl (lw1 G ao f) H) (hA : ¬ A ao) (hk : ∀ q : Nat, q < H.size → ¬ A q → H1[q]? = H[q]?) : va_P G.1 vwCl (lw1 G ao f) H1 := by
  refine h.kept (fun k q hq => ?_)
  match k, hq with
  | 0, hq => cases hq; exact hk _ (vx_lt h (k := 0) rfl) hA
section OLAW
variable {p : Program} {l : Launch} {e : Env} {R : Room} {s : State} {m : MethodId} {args : Array Value} {below : List Frame} {meth : Method} {c : Code} {H : Heap} {locs : List Loc} {cells slots : Nat} {Q : State → Prop}
  {Ts ws ws' : List Cond} {cc bytes : ByteArray} {nL maxL index n mc ms pc : Nat} {own C E0 : String} {y : MethodName} {ret : Option FieldType} {rm : Room} {hh : List (Nat × Nat × Nat × Nat)}
  {b : Addr} {As rest st : List Value} {G : oG} {wd : va_W} {ls : Array Slot} {r : Option Value} {PH : Heap → Prop} {A A0 : Nat → Prop} {H0 : Heap} {Z : oZ} {ao : Nat} {f : Nat → Int64}
theorem o_widen {g : JFrame} {k n : Nat} (h1 : cells ≤ k) (h2 : slots ≤ n) (kk : W p l e R s m args below meth c H locs k n Q g) : W p l e R s m args below meth c H locs cells slots Q g := fun T hT X => kk T hT (stand_widen X h1 h2)
theorem ol_ret {v z : Int32} (hx : p.tables.exec = Jvm.exec) (hb : c.code = cc) (hr : meth.sig.returnType = some .int) (hlocks : meth.locks = false) (hS : va_S A s.heap H locs) (hdg : decode cc pc = .ok (.ireturn, 1)) (h1 : cells ≤ 1) (h2 : slots ≤ 6) (hp : PH H) (he : v = z) : W p l e R s m args below meth c H locs cells slots (MQ below (oQ (some (.int z)) PH A) args s 1 6 A) (F0 m pc ls [.int v]) :=
  o_widen h1 h2 (o_iretM hx hb hr hlocks hS hdg hp he)
theorem ol_cV {q0 ci : Nat} {cq : vw_C} {fs : List Value} {z : Int32} (As rest : List Value) (S : CallFix p m c cc nL s args Ts own) (hM : Met l y ws rm (va_Pc (.ref b :: As) (PW G wd)) (oQ (some (.int z)) PH A) 0 0 A) (cw : CallW R s args own C index y bytes maxL ret ws rm 0 0 n)
    (hK : va_K G.1 vwCl (oty G) s) (hN : oNst s) (hP : va_P G.1 vwCl wd H) (hS : va_S A0 H0 H locs) (hA : ∀ q, A q → A0 q) (hc : vwCl[ci]? = some cq) (hC : cq.1 = C) (he : wd[q0]? = some (b, .inr (ci, fs))) (hn : As.length = n) (hl : ls.size = nL) (hst : st = As.reverse ++ .ref b :: rest) (hW : (rest.map fun v => v.category).sum ≤ 8)
    (hdg : decode cc pc = .ok (.invokevirtual index, 3)) (hf : cells ≤ R.cells ∧ slots ≤ R.slots) (kk : ∀ (H1 : Heap) (locs1 : List Loc), PH H1 → (∀ q : Nat, q < H.size → ¬ A q → H1[q]? = H[q]?) → va_S A0 H0 H1 locs1 → W p l e R s m args below meth c H1 locs1 cells slots Q (F0 m (pc + 3) ls (.int z :: rest))) : W p l e R s m args below meth c H locs cells slots Q (F0 m pc ls st) := by
  subst hst; subst hC
  exact o_call (mc := 0) (ms := 0) (va_runV (As := As) (rest := rest) (b := b) S hM cw ⟨o_blind, va_recv hK hP hc he, o_pre hP hK hN⟩ rfl hn hl rfl (lv_room hW) hdg hf) hS (fun q _ h => hA q h) hA (fun H1 locs1 h1 _ h3 h4 => kk H1 locs1 h1 h3 h4)
/-- a refusal, caught by the row x -/
theorem ol_cx {q0 ci : Nat} {cq : vw_C} {fs : List Value} (As rest : List Value) (S : CallFix p m c cc nL s args Ts own) (hM : vx_Met l y ws rm (va_Pc (.ref b :: As) (PX G wd)) oNo (oXC E0) 1 6 (fun _ => False)) (cw : CallW R s args own C index y bytes maxL ret ws rm 1 6 n)
    (hK : va_K G.1 vwCl (oty G) s) (hN : oNst s) (hP : va_P G.1 vwCl wd s.heap) (hE : oEx s) (hc : vwCl[ci]? = some cq) (hC : cq.1 = C) (he : wd[q0]? = some (b, .inr (ci, fs))) (hn : As.length = n) (hl : ls.size = nL) (hst : st = As.reverse ++ .ref b :: rest) (hW : (rest.map fun v => v.category).sum ≤ 8)
    (hdg : decode cc pc = .ok (.invokevirtual index, 3)) (hf : 0 + 1 ≤ R.cells ∧ 0 + 6 ≤ R.slots)
    (pre : List ExceptionTableEntry) (x : ExceptionTableEntry) (suf : List ExceptionTableEntry) (hsplit : c.exceptionTable.toList = pre ++ x :: suf)
    (hpass : ∀ z ∈ pre, covers z pc = false ∨ (z.catchType ≠ 0 ∧ ∃ nm : String, (Cond.classLink own z.catchType nm).before args s = true ∧ va_Nc E0 nm s)) (hxc : covers x pc = true) (h0 : x.catchType ≠ 0)
    (hlink : (Cond.classLink own x.catchType E0).before args s = true) (hcast : (Cond.castable E0 E0).before args s = true)
    (kk : ∀ (q : Addr) (H1 : Heap), s.heap.size ≤ H1.size → (∀ q : Nat, q < s.heap.size → H1[q]? = s.heap[q]?) → W p l e R s m args below meth c H1 [] 1 6 Q (F0 m x.handlerPc ls [.ref q])) : W p l e R s m args below meth c s.heap [] 0 0 Q (F0 m pc ls st) := by
  subst hst; subst hC
  refine vx_callv (vx_runV (As := As) (rest := rest) (b := b) S hM cw ⟨ox_blind, va_recv hK hP hc he, ox_pre hP hK hN hE⟩ rfl hn hl rfl (lv_room hW) hdg hf) (A0 := fun _ => False) (H0 := s.heap) va_S.rf (fun _ _ h => h) (fun _ h => h) (fun _ _ h => h) ?_ (fun u _ _ _ _ _ h => h.elim)
  intro E ce q9 u t H1 locs1 ht1 hal hu hE1 hsz hkp hS hcell hv hcl
  subst hE1
  have e : locs1 = [] := List.eq_nil_iff_forall_not_mem.mpr (fun z hz => hS.2.2 z hz)
  subst e
  exact vx_catch S.2.2.2.1 pre x suf hsplit hpass hxc h0 hlink hcast hcell hv hcl (kk q9 H1 hsz (fun q hq => hkp q hq (fun h => h)))
/-- the answer laid in the out array -/
theorem ol_last {x : Int64} (hx : p.tables.exec = Jvm.exec) (hb : c.code = cc) (hK : va_K G.1 vwCl (oty G) s) (hP : va_P G.1 vwCl (cw G Z) H) (hO : va_P G.1 vwCl (lw1 G ao f) H) (hI : wl_I G.2.1 137) (hao : ¬ oA G ao) (hS : va_S (oL G ao) H0 H locs) (hdg : decode cc pc = .ok (.lastore, 1))
    (kk : ∀ (H1 : Heap) (locs1 : List Loc), va_P G.1 vwCl (cw G Z) H1 → va_P G.1 vwCl (lw1 G ao (vp_updL f 0 x)) H1 → va_S (oL G ao) H0 H1 locs1 → W p l e R s m args below meth c H1 locs1 cells slots Q (F0 m (pc + 1) ls rest)) : W p l e R s m args below meth c H locs cells slots Q (F0 m pc ls (.long x :: .int 0 :: .ref ao :: rest)) := by
  have hlen : (cw G Z).length = 137 := wl_len _ _ _
  have h137 : (cw G Z ++ lw1 G ao f)[137]? = some (ao, .inl (G.2.2 5, 1, .inr (.inl f))) := by rw [List.getElem?_append_right (by omega), hlen]; rfl
  refine va_last hx hb hK (hP.app hO) (oL_D hI hao) hS 137 5 h137 rfl (vp_in_nI (n := 0) (by decide) (by decide)) hdg (fun H1 locs1 h1 _ h3 => ?_)
  have e : (cw G Z ++ lw1 G ao f).set 137 (ao, .inl (G.2.2 5, 1, .inr (.inl (vp_updL f (0 : Int32).toNatClampNeg x)))) = cw G Z ++ lw1 G ao (vp_updL f 0 x) := by
    rw [List.set_append_right _ _ (by omega), hlen]; rfl
  rw [e] at h1
  exact kk H1 locs1 (ol_split h1).1 (ol_split h1).2 h3
theorem ol_body {vs : List Value} {Qc : Array Value → State → Outcome → State → Prop} {free : Addr → Prop} (hy : plainName y.cls = true) (hw : ws = Cond.codeWith y cc maxL ret hh :: ws') (hlen : (lg_sl vs).length ≤ maxL)
    (body : ∀ (p : Program) (e : Env) (s : State) (m : MethodId) (below : List Frame) (meth : Method) (c : Code) (ls : Array Slot), p.tables.exec = Jvm.exec → c.code = cc → c.maxLocals = maxL → meth.sig.returnType = ret → meth.locks = false → c.exceptionTable.toList = tableOf hh → s.vm.findClass y.cls = some m.cls → (∀ w ∈ ws, w.before vs.toArray s = true) →
      va_P G.1 vwCl wd s.heap → va_P G.1 vwCl (lw1 G ao f) s.heap → va_K G.1 vwCl (oty G) s → oNst s → oEx s → oNc s → lv_has ls maxL (lv_args 0 vs) → W p l e rm s m vs.toArray below meth c s.heap [] 0 0 (MQ below Qc vs.toArray s mc ms free) (F0 m 0 ls [])) : Met l y ws rm (va_Pc vs (PL G wd ao f)) Qc mc ms free := by
  refine va_MetW hy hw ?_
  intro p e s m args below meth c s₁ B hml hv
  obtain ⟨rfl, ⟨⟨hP, hK, hN⟩, hE⟩, hO, hC⟩ := hv
  rw [lg_entry_eq]
  have hts := atoms_spec (ws := ws) B.pre
  exact body p e s m below meth c _ B.exec B.bytes hml B.returns B.notSynchronized (vx_table (x := y) B (hts _ (by rw [hw]; exact List.mem_cons_self))) (findClass_of_methodNamed B.named) hts hP hO hK hN hE hC (lv_entry vs hlen)
end OLAW
