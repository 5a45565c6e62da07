/-! the census of the class -/
/-- the two heads, and what a census needs of the state -/
def oCen (G : oG) (a1 v1 : Nat) (f1 : Nat → Int32) (a2 v2 : Nat) (f2 : Nat → Int32) (U : State) : Prop := oSt a1 v1 19 f1 (oA G) U U.heap ∧ oSt a2 v2 16 f2 (oA G) U U.heap ∧ oCS (oA G) U U.heap ∧ vk_R RX4 146 "street organs coins" a1 U ∧ vk_R RX4 163 "organ coins tune" a2 U
theorem oE_body {l : Launch} {ws ws' : List Cond} {cc : ByteArray} {maxL mc ms : Nat} {y : MethodName} {ret : Option FieldType} {rm : Room} {G : oG} {wd : va_W} {E : State → Prop} {vs : List Value} {Qc : Array Value → State → Outcome → State → Prop} {free : Addr → Prop} (hy : plainName y.cls = true) (hw : ws = Cond.code y cc maxL ret :: ws') (hlen : (lg_sl vs).length ≤ maxL)
    (body : ∀ (p : Program) (e : Env) (s : State) (m : MethodId) (below : List Frame) (meth : Method) (c : Code) (ls : Array Slot), p.tables.exec = Jvm.exec → c.code = cc → c.maxLocals = maxL → meth.sig.returnType = ret → meth.locks = false → s.vm.findClass y.cls = some m.cls → (∀ w ∈ ws, w.before vs.toArray s = true) →
      va_P G.1 vwCl wd s.heap → va_K G.1 vwCl (oty G) s → oNst s → E s → lv_has ls maxL (lv_args 0 vs) → W p l e rm s m vs.toArray below meth c s.heap [] 0 0 (MQ below Qc vs.toArray s mc ms free) (F0 m 0 ls [])) : Met l y ws rm (va_Pc vs (fun U => PW G wd U ∧ E U)) Qc mc ms free := by
  refine Met.ofW hy hw ?_
  intro p e s m args below meth c s₁ B hml hv
  obtain ⟨rfl, ⟨hP, hK, hN⟩, hE⟩ := hv
  rw [lg_entry_eq]
  exact body p e s m below meth c _ B.exec B.bytes hml B.returns B.notSynchronized (findClass_of_methodNamed B.named) (atoms_spec (ws := ws) B.pre) hP hK hN hE (lv_entry vs hlen)
def kCenS (α γ : oT) (nO : Nat) : Nat → oT
  | 0 => γ
  | k + 1 => kLine (kCenS α γ nO k) k (oN (oStandN α (nI k) nO)) (oN (α 4 k 0))
theorem kCenS_ok {α γ : oT} (h : pOK γ) (nO : Nat) : ∀ k, pOK (kCenS α γ nO k)
  | 0 => h
  | k + 1 => kLine_ok (kCenS_ok h nO k) _ _ _
def kCenO (α γ : oT) : Nat → oT
  | 0 => γ
  | k + 1 => kLine (kCenO α γ k) k (oN (α 14 k 0)) (oN (oNT α k))
theorem kCenO_ok {α γ : oT} (h : pOK γ) : ∀ k, pOK (kCenO α γ k)
  | 0 => h
  | k + 1 => kLine_ok (kCenO_ok h k) _ _ _
theorem pOK_0 (γ : oT) : pOK (su γ 0 0 0 0) := by
  unfold pOK
  rw [su_s]
  exact ⟨rfl, Nat.zero_le _⟩
