/-! System.arraycopy of bytes: out of a text's row, or out of the world; a call on a text -/
section OCOPY
variable {p : Program} {l : Launch} {e : Env} {R : Room} {s : State} {m : MethodId} {args : Array Value} {below : List Frame} {meth : Method} {c : Code} {H : Heap} {locs : List Loc} {cells slots : Nat} {Q : State → Prop}
  {Ts ws9 ws' : List Cond} {cc bytes : ByteArray} {nL maxL index n9 mc ms pc sz a9 w9 k9 t1 t2 : Nat} {own : String} {y : MethodName} {ret : Option FieldType} {rm : Room} {t : Nat → Int32}
  {D : va_G} {cl : List vw_C} {tys : List (ClassId × FieldType)} {ws : va_W} {a : Nat} {ls : Array Slot} {rest : List Value} {As st : List Value} {A B : Nat → Prop} {H0 : Heap} {G : oG} {wd : va_W} {r : Option Value} {PH : Heap → Prop}
theorem o_copyT (hexec : p.tables.exec = Jvm.exec) (hb : c.code = cc) (hml : c.maxLocals = ls.size) {own : String} {index : Nat} (hown : s.vm.findClass own = some m.cls) (hlink : (Cond.methodLink own index arraycopyName).before args s = true) (hnat : (Cond.native arraycopyName).before args s = true) (hstat : (Cond.static arraycopyName).before args s = true) (hini : (Cond.initialized "java/lang/System").before args s = true)
    (hK : va_K D cl tys s) (hP : va_P D cl ws H) (hD : va_D A ws) (hS : va_S A s.heap H locs) {b0 n0 : Nat} {f : Nat → Int32} (hX : va_T .byte b0 n0 (fun j => .int (f j)) A s s.heap) (q1 t1 : Nat) {c1 : ClassId} {n1 : Nat} {g : Nat → Int32} (ha1 : ws[q1]? = some (a, .inl (c1, n1, .inl g))) (ht1 : tys[t1]? = some (c1, .byte))
    {d n : Nat} (hd : d < 2 ^ 31) (hn : n < 2 ^ 31) (h4 : n ≤ n0) (h5 : d + n ≤ n1) (hfit : ∀ i, i < n → fits .byte (.int (f i)) = true)
    (hframes : 1 ≤ R.frames) (hlocals : (rest.map fun v => v.category).sum + (nativeFrameWords "java/lang/System" "arraycopy" 5 + 11) ≤ R.locals) (hdg : decode cc pc = .ok (.invokestatic index, 3))
    (kk : ∀ (H1 : Heap) (locs1 : List Loc), va_P D cl (ws.set q1 (a, .inl (c1, n1, .inl (va_cpy f g 0 d n)))) H1 → va_D A (ws.set q1 (a, .inl (c1, n1, .inl (va_cpy f g 0 d n)))) → va_S A s.heap H1 locs1 → W p l e R s m args below meth c H1 locs1 cells slots Q (F0 m (pc + 3) ls rest)) : W p l e R s m args below meth c H locs cells slots Q (F0 m pc ls (.int (nI n) :: .int (nI d) :: .ref a :: .int 0 :: .ref b0 :: rest)) := by
  have h0 : (0 : Int32).toNatClampNeg = 0 := by decide
  have hnc := nI_clamp hn
  have hdc := nI_clamp hd
  intro T hT X
  obtain ⟨scr, hs1, hs2, hs3, hs4, -, hs5, hsA⟩ := hX
  have hbl : b0 < s.heap.size := (Array.getElem?_eq_some_iff.mp hs1).1
  have hc0 : H[b0]? = some scr := by rw [hS.2.1 b0 hbl hsA]; exact hs1
  have hc1 : H[a]? = some (vp_cell c1 (n1, .inl g)) := hP q1 _ ha1
  obtain ⟨hs6, k0, hk0, cm0, hkk0⟩ := hs2
  obtain ⟨-, k1, hk1, cm1, hkk1⟩ := (hK.2 t1 _ ht1).1 n1 (fun j => .int (g j))
  obtain ⟨vm', X', step⟩ := X.arraycopy hexec hown hlink hnat hstat hini (src := b0) (dst := a) (cs := scr) (cd := vp_cell c1 (n1, .inl g)) (srcPos := 0) (destPos := nI d) (n := nI n) (by rw [hT]; exact hc0) (by rw [hT]; exact hc1)
    hs6 (fun _ h => by cases h) hs3 (fun h => by cases h) hk0 hk1 hkk0 hkk1 (by simp [refKind]) (by decide) (nI_pos hd) (nI_pos hn)
    (by rw [nI_toInt hn]; show ¬ (0 : Int) + (n : Int) > (scr.slots.size : Int); omega)
    (by rw [nI_toInt hn, nI_toInt hd]; show ¬ _ > ((arrV c1 n1 (fun j => .int (g j))).slots.size : Int); rw [arrV_size]; omega)
    (fun vm₁ _ i hi => by
      rw [hnc] at hi
      have e : scr.slots.getD ((0 : Int32).toNatClampNeg + i) .null = .int (f i) := by
        rw [h0, Nat.zero_add, Array.getD_eq_getD_getElem?, hs5 _ (by omega)]
        rfl
      refine ⟨?_, ?_⟩
      · rw [e]
        exact hfit i hi
      · rw [e]
        exact trivial)
    (g := F0 m pc ls (.int (nI n) :: .int (nI d) :: .ref a :: .int 0 :: .ref b0 :: rest)) rfl (by rw [hml]) (rest := rest) rfl (by rw [hb]; exact hdg) hframes (by show 2 * 0 + _ + _ ≤ _; omega)
  have e1 : copied scr (vp_cell c1 (n1, .inl g)) 0 (nI d) (nI n) = vp_cell c1 (n1, .inl (va_cpy f g (0 : Int32).toNatClampNeg (nI d).toNatClampNeg (nI n).toNatClampNeg)) := va_copiedX (fun z => .int z) scr c1 f g hs5 (by rw [h0, hnc]; omega)
  rw [h0, hdc, hnc] at e1
  rw [e1] at X' step
  have hl : a < H.size := (Array.getElem?_eq_some_iff.mp hc1).1
  have hheap : ((T.setVm vm').setCell a (vp_cell c1 (n1, .inl (va_cpy f g 0 d n)))).heap = H.setIfInBounds a (vp_cell c1 (n1, .inl (va_cpy f g 0 d n))) := by rw [← hT]; rfl
  have oq : ∀ q : Nat, q ≠ a → (H.setIfInBounds a (vp_cell c1 (n1, .inl (va_cpy f g 0 d n))))[q]? = H[q]? := fun q hq => by simp [Array.getElem?_setIfInBounds, Ne.symm hq]
  obtain ⟨t, a1, b1⟩ := kk _ _ (hP.set hD ha1 (show (H.setIfInBounds a _)[a]? = some _ by simp [Array.getElem?_setIfInBounds, hl]) oq) (hD.set ha1) ⟨by simp; exact hS.1, fun q g1 g2 => by
      rw [oq q (fun e => g2 (by rw [e]; exact hD.2 q1 _ ha1))]
      exact hS.2.1 q g1 g2, fun q hq => by
      rcases List.mem_append.mp hq with h | h
      · exact hS.2.2 q h
      · obtain ⟨z, -, hz⟩ := List.mem_map.mp h
        rw [← hz]
        exact hD.2 q1 _ ha1⟩ _ hheap X'
  exact ⟨t, step t a1, b1⟩
/-- a call of a text's method that writes the world -/
theorem oB_cVs (As rest : List Value) (S : CallFix p m c cc nL s args Ts own) (hM : Met l y ws9 rm (va_Pc (.ref a9 :: As) (PB G wd sz a9 w9 k9 t t1 t2 B)) (oQ r PH B) mc ms B) (cw : CallW R s args own RJ0 index y bytes maxL ret ws9 rm mc ms n9)
    (hK : va_K G.1 vwCl (oty G) s) (hN : oNst s) (hP : va_P G.1 vwCl wd H) (hE : oBE a9 w9 k9 t t1 t2 A s s.heap) (hS : va_S A s.heap H locs) (hAB : ∀ q, B q → A q) (hz : sz ≤ H.size) (hn : As.length = n9) (hl : ls.size = nL) (hst : st = As.reverse ++ .ref a9 :: rest) (hW : (rest.map fun v => v.category).sum ≤ 8)
    (hdg : decode cc pc = .ok (.invokevirtual index, 3)) (hf : cells + mc ≤ R.cells ∧ slots + ms ≤ R.slots) (kk : ∀ (H1 : Heap) (locs1 : List Loc), PH H1 → H.size ≤ H1.size → (∀ q : Nat, q < H.size → ¬ B q → H1[q]? = H[q]?) → va_S A s.heap H1 locs1 → W p l e R s m args below meth c H1 locs1 (cells + mc) (slots + ms) Q (F0 m (pc + 3) ls (r.toList ++ rest))) : W p l e R s m args below meth c H locs cells slots Q (F0 m pc ls st) := by
  subst hst
  exact o_call (va_runV (As := As) (rest := rest) (b := a9) S hM cw ⟨oB_blind, oS_recv hS hE.2.2, oB_pre hP hK hN hE hS hAB hz⟩ rfl hn hl rfl (lv_room hW) hdg hf) hS (fun q _ h => hAB q h) hAB kk
end OCOPY
/-- bytes -/
def bfit (f : Nat → Int32) (n : Nat) : Prop := ∀ j, j < n → fits .byte (.int (f j)) = true
