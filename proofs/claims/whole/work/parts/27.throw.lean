/-! calls that end in a throw -/
def oXI : String := "java/lang/IndexOutOfBoundsException"
def oXA : String := "java/lang/IllegalArgumentException"
def oXS : String := "java/lang/IllegalStateException"
/-- the words of a throw that are carried apart -/
def oXB : List Cond := [.castable oXI oXI, .castable oXA oXA, .castable oXS oXS, .declares (Bundle.initS "java/lang/RuntimeException"), .declares (Bundle.initS "java/lang/Exception"), .declares (Bundle.initS Bundle.tN)]
theorem oXB_i : ∀ w ∈ (vx_atS RX4 197 "java/lang/IndexOutOfBoundsException" ["java/lang/RuntimeException", "java/lang/Exception"]).filter (fun w => !goodWord w), w ∈ oXB := by decide +kernel
theorem oXB_a : ∀ w ∈ (vx_atS RX4 96 "java/lang/IllegalArgumentException" ["java/lang/RuntimeException", "java/lang/Exception"]).filter (fun w => !goodWord w), w ∈ oXB := by decide +kernel
theorem oXB_s : ∀ w ∈ (vx_atS RX4 38 "java/lang/IllegalStateException" ["java/lang/RuntimeException", "java/lang/Exception"]).filter (fun w => !goodWord w), w ∈ oXB := by decide +kernel
theorem oXB_gi : ∀ w ∈ Cond.classLink RX4 193 "java/lang/IndexOutOfBoundsException" :: Cond.initialized "java/lang/IndexOutOfBoundsException" :: vx_atS RX4 197 "java/lang/IndexOutOfBoundsException" ["java/lang/RuntimeException", "java/lang/Exception"], vx_ot w = true := by decide +kernel
theorem oXB_ga : ∀ w ∈ Cond.classLink RX4 92 "java/lang/IllegalArgumentException" :: Cond.initialized "java/lang/IllegalArgumentException" :: vx_atS RX4 96 "java/lang/IllegalArgumentException" ["java/lang/RuntimeException", "java/lang/Exception"], vx_ot w = true := by decide +kernel
theorem oXB_gs : ∀ w ∈ Cond.classLink RX4 34 "java/lang/IllegalStateException" :: Cond.initialized "java/lang/IllegalStateException" :: vx_atS RX4 38 "java/lang/IllegalStateException" ["java/lang/RuntimeException", "java/lang/Exception"], vx_ot w = true := by decide +kernel
def oXT : List (Nat × String) := [(195, "no such number"), (198, "out of its range"), (36, "no more streets"), (79, "no more organs"), (94, "not a barrel"), (112, "banished from this street")]
/-- what a throw of the class needs of the state -/
def oEx (U : State) : Prop := vx_Zq Bundle.tN "UNASSIGNED_STACK" Bundle.steD (fun _ => False) U U.heap ∧ vx_Zq Bundle.tN "SUPPRESSED_SENTINEL" Bundle.listD (fun _ => False) U U.heap ∧ (∀ q ∈ oXT, ∃ a, vk_R RX4 q.1 q.2 a U) ∧ ∀ w ∈ oXB, va_Nw w U
theorem oXB_cases {P : Cond → Prop} (hc : ∀ a b, P (.castable a b)) (hd : ∀ y, P (.declares y)) : ∀ w ∈ oXB, P w := by
  intro w hw
  simp only [oXB, List.mem_cons, List.not_mem_nil, or_false] at hw
  rcases hw with rfl | rfl | rfl | rfl | rfl | rfl
  · exact hc _ _
  · exact hc _ _
  · exact hc _ _
  · exact hd _
  · exact hd _
  · exact hd _
theorem oEx.warm {s U : State} (hW : s.WarmedH U.vm) (hh : U.heap = s.heap) (h : oEx s) : oEx U := by
  refine ⟨by rw [hh]; exact vx_Zq.moved hW.alike h.1, by rw [hh]; exact vx_Zq.moved hW.alike h.2.1, fun q hq => ?_, ?_⟩
  · obtain ⟨a, ha⟩ := h.2.2.1 q hq
    exact ⟨a, vk_R.warm hW ha⟩
  · intro w hw
    exact oXB_cases (P := fun w => va_Nw w s → va_Nw w U) (fun _ _ h => va_Nw.warmC hW h) (fun _ h => va_Nw.warmD hW h) w hw (h.2.2.2 w hw)
theorem oEx.same {u U : State} (hv : u.vm = U.vm) (hh : U.heap = u.heap) (h : oEx u) : oEx U := by
  have ha : u.vm.Alike U.vm := by rw [hv]; exact Vm.Alike.refl _
  refine ⟨by rw [hh]; exact vx_Zq.moved ha h.1, by rw [hh]; exact vx_Zq.moved ha h.2.1, fun q hq => ?_, ?_⟩
  · obtain ⟨a, h1⟩ := h.2.2.1 q hq
    exact ⟨a, vk_R.same hv.symm h1⟩
  · intro w hw
    exact oXB_cases (P := fun w => va_Nw w u → va_Nw w U) (fun _ _ h => va_Nw.same rfl hv h) (fun _ h => va_Nw.same rfl hv h) w hw (h.2.2.2 w hw)
def PX (G : oG) (ws : va_W) : State → Prop := fun U => PW G ws U ∧ oEx U
theorem ox_blind {av : List Value} {G : oG} {ws : va_W} : FrameBlind (va_Pc av (PX G ws)) := fun a U g mk q => by
  obtain ⟨q0, q1, q2⟩ := q
  obtain ⟨-, q3⟩ := o_blind (av := av) (G := G) (ws := ws) a U g mk ⟨q0, q1⟩
  exact ⟨q0, q3, oEx.same (u := U) (U := U.calling g mk a) rfl rfl q2⟩
theorem ox_pre {s : State} {av : List Value} {G : oG} {ws : va_W} (hP : va_P G.1 vwCl ws s.heap) (hK : va_K G.1 vwCl (oty G) s) (hN : oNst s) (hE : oEx s) : ∀ U : State, U.heap = s.heap → s.WarmedH U.vm → va_Pc av (PX G ws) av.toArray U :=
  fun U hU hW => ⟨rfl, (o_pre (av := av) hP hK hN U hU hW).2, hE.warm hW hU⟩
/-- it never answers -/
def oNo : Array Value → State → Outcome → State → Prop := va_Qv (fun (_ : Unit) => False) (fun _ _ => True) (fun _ => False)
/-- it throws E0, and changes nothing that was there -/
def oXC (E0 : String) : String → State → State → Prop := vx_X (fun (_ : Unit) => True) (fun E _ _ => E = E0) (fun _ => False)
section OTHROW
variable {p : Program} {l : Launch} {e : Env} {R : Room} {s : State} {m : MethodId} {args : Array Value} {below : List Frame} {meth : Method} {c : Code}
  {Ts ws ws' : List Cond} {cc bytes : ByteArray} {nL maxL index n pc : Nat} {own C E0 : String} {y : MethodName} {ret : Option FieldType} {rm : Room}
  {b : Addr} {As rest st : List Value} {G : oG} {wd : va_W} {ls : Array Slot}
theorem ox_goes {st0 : List Value} {a : Array Value} (hr : vx_Run p l e R s m args below meth c s.heap [] 0 0 1 6 (F0 m pc ls st0) rest (oNo a) (oXC E0) (fun _ => False)) (ht : ∀ x ∈ c.exceptionTable.toList, False) (hlocks : meth.locks = false) :
    W p l e R s m args below meth c s.heap [] 0 0 (vx_MQ below oNo (oXC E0) args s 1 6 (fun _ => False)) (F0 m pc ls st0) := by
  refine vx_callv hr (A0 := fun _ => False) (H0 := s.heap) va_S.rf (fun _ _ h => h) (fun _ h => h) (fun _ _ h => h) ?_ (fun u _ _ _ _ _ h => h.elim)
  intro E ce q9 u t H1 locs1 ht1 hal hu hE hsz hkp hS hcell hv hcl
  refine vx_out (fun x hx => (ht x hx).elim) hlocks hcell hv hcl (fun t2 ht2 _ => ⟨(), trivial, hE, hS.F ht2⟩) (fun z hz => hS.2.2 z hz) (by omega) (by omega)
theorem ox_cV {q0 ci : Nat} {cq : vw_C} {fs : List Value} (As rest : List Value) (S : CallFix p m c cc nL s args Ts own) (hM : vx_Met l y ws rm (va_Pc (.ref b :: As) (PX G wd)) oNo (oXC E0) 1 6 (fun _ => False)) (cw : CallW R s args own C index y bytes maxL ret ws rm 1 6 n)
    (hK : va_K G.1 vwCl (oty G) s) (hN : oNst s) (hP : va_P G.1 vwCl wd s.heap) (hE : oEx s) (hc : vwCl[ci]? = some cq) (hC : cq.1 = C) (he : wd[q0]? = some (b, .inr (ci, fs))) (hn : As.length = n) (hl : ls.size = nL) (hst : st = As.reverse ++ .ref b :: rest) (hW : (rest.map fun v => v.category).sum ≤ 8)
    (hdg : decode cc pc = .ok (.invokevirtual index, 3)) (hf : 0 + 1 ≤ R.cells ∧ 0 + 6 ≤ R.slots) (ht : ∀ x ∈ c.exceptionTable.toList, False) (hlocks : meth.locks = false) : W p l e R s m args below meth c s.heap [] 0 0 (vx_MQ below oNo (oXC E0) args s 1 6 (fun _ => False)) (F0 m pc ls st) := by
  subst hst; subst hC
  exact ox_goes (vx_runV (As := As) (rest := rest) (b := b) S hM cw ⟨ox_blind, va_recv hK hP hc he, ox_pre hP hK hN hE⟩ rfl hn hl rfl (lv_room hW) hdg hf) ht hlocks
theorem ox_cS (As rest : List Value) (S : CallFix p m c cc nL s args Ts own) (hM : vx_Met l y ws rm (va_Pc As (PX G wd)) oNo (oXC E0) 1 6 (fun _ => False)) (cw : CallB R s args own index y bytes maxL ret ws rm 1 6 n ∧ (Cond.static y).before args s = true)
    (hK : va_K G.1 vwCl (oty G) s) (hN : oNst s) (hP : va_P G.1 vwCl wd s.heap) (hE : oEx s) (hn : As.length = n) (hl : ls.size = nL) (hst : st = As.reverse ++ rest) (hW : (rest.map fun v => v.category).sum ≤ 8)
    (hdg : decode cc pc = .ok (.invokestatic index, 3)) (hf : 0 + 1 ≤ R.cells ∧ 0 + 6 ≤ R.slots) (ht : ∀ x ∈ c.exceptionTable.toList, False) (hlocks : meth.locks = false) : W p l e R s m args below meth c s.heap [] 0 0 (vx_MQ below oNo (oXC E0) args s 1 6 (fun _ => False)) (F0 m pc ls st) := by
  subst hst
  exact ox_goes (vx_runS (As := As) (rest := rest) S hM cw ⟨ox_blind, ox_pre hP hK hN hE⟩ rfl hn hl rfl (lv_room hW) hdg hf) ht hlocks
/-- a body that throws -/
theorem ox_body {vs : List Value} (hy : plainName y.cls = true) (hw : ws = Cond.code y cc maxL ret :: ws') (hlen : (lg_sl vs).length ≤ maxL)
    (body : ∀ (p : Program) (e : Env) (s : State) (m : MethodId) (below : List Frame) (meth : Method) (c : Code) (ls : Array Slot), p.tables.exec = Jvm.exec → c.code = cc → c.maxLocals = maxL → (∀ x ∈ c.exceptionTable.toList, False) → meth.locks = false → s.vm.findClass y.cls = some m.cls → (∀ w ∈ ws, w.before vs.toArray s = true) →
      va_P G.1 vwCl wd s.heap → va_K G.1 vwCl (oty G) s → oNst s → oEx s → lv_has ls maxL (lv_args 0 vs) → W p l e rm s m vs.toArray below meth c s.heap [] 0 0 (vx_MQ below oNo (oXC E0) vs.toArray s 1 6 (fun _ => False)) (F0 m 0 ls [])) : vx_Met l y ws rm (va_Pc vs (PX G wd)) oNo (oXC E0) 1 6 (fun _ => False) := by
  refine vx_ofW hy hw ?_
  intro p e s m args below meth c s₁ B hml ht hv
  obtain ⟨rfl, ⟨hP, hK, hN⟩, hE⟩ := hv
  rw [lg_entry_eq]
  exact body p e s m below meth c _ B.exec B.bytes hml ht B.notSynchronized (findClass_of_methodNamed B.named) (atoms_spec (ws := ws) B.pre) hP hK hN hE (lv_entry vs hlen)
end OTHROW
theorem oEx.use {s : State} {args : Array Value} (h : oEx s) : ∀ w ∈ oXB, w.before args s = true := fun w hw => oXB_cases (P := fun w => va_Nw w s → w.before args s = true) (fun _ _ h => va_Nw.use rfl h) (fun _ h => va_Nw.use rfl h) w hw (h.2.2.2 w hw)
theorem oIn_no {x : Int32} {n : Nat} (h : oIn x n = false) (h0 : ¬ x < 0) (h1 : x < nI n) : False := by
  have : oIn x n = true := by
    unfold oIn
    rw [Bool.and_eq_true]
    exact ⟨decide_eq_true (Int32.not_lt.mp h0), decide_eq_true h1⟩
  rw [h] at this; exact absurd this (by decide)
theorem oRg_no {x a b : Int32} (h : oRg x a b = false) (h0 : ¬ x < a) (h1 : x ≤ b) : False := by
  have : oRg x a b = true := by
    unfold oRg
    rw [Bool.and_eq_true]
    exact ⟨decide_eq_true (Int32.not_lt.mp h0), decide_eq_true h1⟩
  rw [h] at this; exact absurd this (by decide)
