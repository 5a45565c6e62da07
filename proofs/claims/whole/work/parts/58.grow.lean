/-! calls of methods that make cells -/
def PN (G : oG) (ws : va_W) (sz : Nat) : State → Prop := fun U => PW G ws U ∧ sz ≤ U.heap.size
theorem oN_blind {av : List Value} {G : oG} {ws : va_W} {sz : Nat} : FrameBlind (va_Pc av (PN G ws sz)) := fun r U g mk q => by
  obtain ⟨q0, q1, q2⟩ := q
  obtain ⟨-, q4⟩ := o_blind (av := av) (G := G) (ws := ws) r U g mk ⟨q0, q1⟩
  exact ⟨q0, q4, q2⟩
theorem oN_pre {s : State} {H : Heap} {av : List Value} {G : oG} {ws : va_W} {sz : Nat} (hP : va_P G.1 vwCl ws H) (hK : va_K G.1 vwCl (oty G) s) (hN : oNst s) (hz : sz ≤ H.size) : ∀ U : State, U.heap = H → s.WarmedH U.vm → va_Pc av (PN G ws sz) av.toArray U :=
  fun U hU hW => ⟨rfl, (o_pre (av := av) hP hK hN U hU hW).2, by rw [hU]; exact hz⟩
section OGROW
variable {p : Program} {l : Launch} {e : Env} {R : Room} {s : State} {m : MethodId} {args : Array Value} {below : List Frame} {meth : Method} {c : Code} {H : Heap} {locs : List Loc} {cells slots : Nat} {Q : State → Prop}
  {Ts ws ws' : List Cond} {cc bytes : ByteArray} {nL maxL index n mc ms pc sz : Nat} {own C : String} {y : MethodName} {ret : Option FieldType} {rm : Room}
  {b : Addr} {As rest st : List Value} {G : oG} {wd : va_W} {ls : Array Slot} {r : Option Value} {PH : Heap → Prop} {A A0 : Nat → Prop} {H0 : Heap}
theorem oN_cV {q0 ci : Nat} {cq : vw_C} {fs : List Value} (As rest : List Value) (S : CallFix p m c cc nL s args Ts own) (hM : Met l y ws rm (va_Pc (.ref b :: As) (PN G wd sz)) (oQ r PH A) mc ms A) (cw : CallW R s args own C index y bytes maxL ret ws rm mc ms n)
    (hK : va_K G.1 vwCl (oty G) s) (hN : oNst s) (hP : va_P G.1 vwCl wd H) (hz : sz ≤ H.size) (hS : va_S A H0 H locs) (hc : vwCl[ci]? = some cq) (hC : cq.1 = C) (he : wd[q0]? = some (b, .inr (ci, fs))) (hn : As.length = n) (hl : ls.size = nL) (hst : st = As.reverse ++ .ref b :: rest) (hW : (rest.map fun v => v.category).sum ≤ 8)
    (hdg : decode cc pc = .ok (.invokevirtual index, 3)) (hf : cells + mc ≤ R.cells ∧ slots + ms ≤ R.slots) (kk : ∀ (H1 : Heap) (locs1 : List Loc), PH H1 → va_S A H0 H1 locs1 → W p l e R s m args below meth c H1 locs1 (cells + mc) (slots + ms) Q (F0 m (pc + 3) ls (r.toList ++ rest))) : W p l e R s m args below meth c H locs cells slots Q (F0 m pc ls st) := by
  subst hst; subst hC
  exact o_call (va_runV (As := As) (rest := rest) (b := b) S hM cw ⟨oN_blind, va_recv hK hP hc he, oN_pre hP hK hN hz⟩ rfl hn hl rfl (lv_room hW) hdg hf) hS (fun q _ h => h) (fun q h => h) (fun H1 locs1 h1 _ _ h4 => kk H1 locs1 h1 h4)
/-- a call that changes the world, where more may be written -/
theorem oM_cVi {q0 ci : Nat} {cq : vw_C} {fs : List Value} {z : Int32} (As rest : List Value) (S : CallFix p m c cc nL s args Ts own) (hM : Met l y ws rm (va_Pc (.ref b :: As) (PW G wd)) (oQ (some (.int z)) PH A) 0 0 A) (cw : CallW R s args own C index y bytes maxL ret ws rm 0 0 n)
    (hK : va_K G.1 vwCl (oty G) s) (hN : oNst s) (hP : va_P G.1 vwCl wd H) (hS : va_S A0 H0 H locs) (hA : ∀ q, A q → A0 q) (hc : vwCl[ci]? = some cq) (hC : cq.1 = C) (he : wd[q0]? = some (b, .inr (ci, fs))) (hn : As.length = n) (hl : ls.size = nL) (hst : st = As.reverse ++ .ref b :: rest) (hW : (rest.map fun v => v.category).sum ≤ 8)
    (hdg : decode cc pc = .ok (.invokevirtual index, 3)) (hf : cells ≤ R.cells ∧ slots ≤ R.slots) (kk : ∀ (H1 : Heap) (locs1 : List Loc), PH H1 → va_S A0 H0 H1 locs1 → W p l e R s m args below meth c H1 locs1 cells slots Q (F0 m (pc + 3) ls (.int z :: rest))) : W p l e R s m args below meth c H locs cells slots Q (F0 m pc ls st) := by
  subst hst; subst hC
  exact o_call (mc := 0) (ms := 0) (va_runV (As := As) (rest := rest) (b := b) S hM cw ⟨o_blind, va_recv hK hP hc he, o_pre hP hK hN⟩ rfl hn hl rfl (lv_room hW) hdg hf) hS (fun q _ h => hA q h) hA (fun H1 locs1 h1 _ _ h4 => kk H1 locs1 h1 h4)
theorem oM_cVv {q0 ci : Nat} {cq : vw_C} {fs : List Value} (As rest : List Value) (S : CallFix p m c cc nL s args Ts own) (hM : Met l y ws rm (va_Pc (.ref b :: As) (PW G wd)) (oQ none PH A) 0 0 A) (cw : CallW R s args own C index y bytes maxL ret ws rm 0 0 n)
    (hK : va_K G.1 vwCl (oty G) s) (hN : oNst s) (hP : va_P G.1 vwCl wd H) (hS : va_S A0 H0 H locs) (hA : ∀ q, A q → A0 q) (hc : vwCl[ci]? = some cq) (hC : cq.1 = C) (he : wd[q0]? = some (b, .inr (ci, fs))) (hn : As.length = n) (hl : ls.size = nL) (hst : st = As.reverse ++ .ref b :: rest) (hW : (rest.map fun v => v.category).sum ≤ 8)
    (hdg : decode cc pc = .ok (.invokevirtual index, 3)) (hf : cells ≤ R.cells ∧ slots ≤ R.slots) (kk : ∀ (H1 : Heap) (locs1 : List Loc), PH H1 → va_S A0 H0 H1 locs1 → W p l e R s m args below meth c H1 locs1 cells slots Q (F0 m (pc + 3) ls rest)) : W p l e R s m args below meth c H locs cells slots Q (F0 m pc ls st) := by
  subst hst; subst hC
  exact o_call (mc := 0) (ms := 0) (va_runV (As := As) (rest := rest) (b := b) S hM cw ⟨o_blind, va_recv hK hP hc he, o_pre hP hK hN⟩ rfl hn hl rfl (lv_room hW) hdg hf) hS (fun q _ h => hA q h) hA (fun H1 locs1 h1 _ _ h4 => kk H1 locs1 h1 h4)
end OGROW
