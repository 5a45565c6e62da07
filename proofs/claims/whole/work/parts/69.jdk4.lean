/-! a text made of a builder -/
theorem oB_bodyI {l : Launch} {ws ws' : List Cond} {cc : ByteArray} {maxL mc ms sz a w k t1 t2 : Nat} {y : MethodName} {ret : Option FieldType} {rm : Room} {t : Nat → Int32} {G : oG} {wd : va_W} {A : Nat → Prop} {free : Addr → Prop} {vs : List Value} {Qc : Array Value → State → Outcome → State → Prop} (hy : plainFor y = true) (hyn : y.name = "<init>") (hw : ws = Cond.code y cc maxL ret :: ws') (hlen : (lg_sl vs).length ≤ maxL)
    (body : ∀ (p : Program) (e : Env) (s : State) (m : MethodId) (below : List Frame) (meth : Method) (c : Code) (ls : Array Slot), p.tables.exec = Jvm.exec → c.code = cc → c.maxLocals = maxL → meth.sig.returnType = ret → meth.locks = false → meth.name = "<init>" → s.vm.findClass y.cls = some m.cls → (∀ w ∈ ws, w.before vs.toArray s = true) →
      va_P G.1 vwCl wd s.heap → va_K G.1 vwCl (oty G) s → oNst s → oBE a w k t t1 t2 A s s.heap → sz ≤ s.heap.size → lv_has ls maxL (lv_args 0 vs) → W p l e rm s m vs.toArray below meth c s.heap [] 0 0 (MQ below Qc vs.toArray s mc ms free) (F0 m 0 ls [])) : Met l y ws rm (va_Pc vs (PB G wd sz a w k t t1 t2 A)) Qc mc ms free := by
  refine o_ofWF hy hw ?_
  intro p e s m args below meth c s₁ B hml hv
  obtain ⟨rfl, ⟨hP, hK, hN⟩, hE, hz⟩ := hv
  rw [lg_entry_eq]
  exact body p e s m below meth c _ B.exec B.bytes hml B.returns B.notSynchronized ((name_of_methodNamed B.named B.method).1.trans hyn) (findClass_of_methodNamed B.named) (atoms_spec (ws := ws) B.pre) hP hK hN hE hz (lv_entry vs hlen)
set_option maxHeartbeats 4000000 in
set_option maxRecDepth 100000 in
theorem m_J7_copyOfRange (l : Launch) (G : oG) (b v : Nat) (hbv : b ≠ v) (c : Int32) (f : Nat → Int32) (n : Nat) (hn : n ≤ 15) (hfit : bfit f n) (sz a9 w9 k9 : Nat) (t : Nat → Int32) (t1 t2 : Nat) (hbz : b < sz) (hvz : v < sz) : Met l yJ7_copyOfRange_39247 wsJ7_copyOfRange_39247 ({ frames := 2, cells := 1, slots := 16, locals := 84 } : Room) (va_Pc [.ref v, .int 0, .int (nI n)] (PB G (bw G b v c f) sz a9 w9 k9 t t1 t2 (bS sz))) (oQx (PR G b v c f sz n) (bS sz)) 1 16 (bS sz) := by
  refine oB_body (cc := cJ7_copyOfRange_39247) (by decide +kernel) rfl (Nat.le_of_ble_eq_true rfl) ?_
  intro p e s m below meth c9 ls hx hb hml hr hlocks hown hts hP hK hN hE hz hl
  have hown : s.vm.findClass RJ7 = some m.cls := hown
  have hl : lv_has ls 3 [(0, .ref v), (1, .int 0), (2, .int (nI n))] := hl
  have hS : va_S (bS sz) s.heap s.heap [] := va_S.rf
  refine lv_iload_n hx hb dJ7_copyOfRange_39247_0 rfl (lv_at hl 1 rfl) ?_
  refine lv_if_ne (tgt := 10) hx hb dJ7_copyOfRange_39247_1 (by decide) (fun c1 => absurd rfl c1) (fun c1 => ?_)
  refine lv_iload_n hx hb dJ7_copyOfRange_39247_4 rfl (lv_at hl 2 rfl) ?_
  refine lv_aload_n hx hb dJ7_copyOfRange_39247_5 rfl (lv_at hl 0 rfl) ?_
  refine va_alen (v := 16) hx hb hK hP (1) 3 (bw_1 G b v c f) rfl (show Int32.ofNat 16 = 16 by decide) dJ7_copyOfRange_39247_6 ?_
  refine lv_icmp_eq (tgt := 17) hx hb dJ7_copyOfRange_39247_7 (by decide) (fun c7 => absurd ((nI_eq (b := 16) (by omega) (by decide)).mp c7) (by omega)) (fun c7 => ?_)
  refine lv_aload_n hx hb dJ7_copyOfRange_39247_10 rfl (lv_at hl 0 rfl) ?_
  refine lv_iload_n hx hb dJ7_copyOfRange_39247_11 rfl (lv_at hl 1 rfl) ?_
  refine lv_iload_n hx hb dJ7_copyOfRange_39247_12 rfl (lv_at hl 2 rfl) ?_
  refine oB_cSx [.ref v, .int 0, .int (nI n)] [] ⟨hx, hb, hml, hown, hts⟩ (m_J7_copyOfRangeByte l G b v hbv c f n (by omega) hfit sz a9 w9 k9 t t1 t2 hbz hvz) (va_cwS 3 hts gJ7_copyOfRange_39247_J7_copyOfRangeByte_39247 rfl rfl rfl (by decide +kernel) ⟨Nat.le_of_ble_eq_true rfl, Nat.le_of_ble_eq_true rfl⟩) hK hN hP hE hS (fun _ h => h) hz rfl hl.1 rfl (Nat.le_of_ble_eq_true rfl) dJ7_copyOfRange_39247_13 ⟨(Nat.le_of_ble_eq_true rfl), (Nat.le_of_ble_eq_true rfl)⟩ (fun q H locs hP _ _ hS => ?_)
  exact o_aretx hx hb hr (Or.inr ⟨_, rfl⟩) hlocks hS dJ7_copyOfRange_39247_16 hP
/-- a text's cells: its object, its bytes -/
def swS (G : oG) (a q n : Nat) (f : Nat → Int32) : va_W := [(a, .inr (0, [.ref q, .int 0, .int 0, .int 0])), (q, .inl (G.2.2 3, n, .inl f))]
def sw0 (a : Nat) : va_W := [(a, .inr (0, [.null, .int 0, .int 0, .int 0]))]
def PS (G : oG) (sz n a : Nat) (f : Nat → Int32) (H : Heap) : Prop := ∃ q, sz ≤ q ∧ a ≠ q ∧ va_P G.1 vwCl (swS G a q n (va_cpy f (fun _ => 0) 0 0 n)) H
set_option maxHeartbeats 4000000 in
set_option maxRecDepth 100000 in
theorem m_J0_init2 (l : Launch) (G : oG) (b v : Nat) (hbv : b ≠ v) (f : Nat → Int32) (n : Nat) (hn : n ≤ 15) (hfit : bfit f n) (a : Nat) (sz a9 w9 k9 : Nat) (t : Nat → Int32) (t1 t2 : Nat) (haz : a < sz) (hbz : b < sz) (hvz : v < sz) (hab : a ≠ b) (hav : a ≠ v) : Met l yJ0_init_db425 wsJ0_init_db425 ({ frames := 3, cells := 1, slots := 16, locals := 106 } : Room) (va_Pc [.ref a, .ref b, .null] (PB G (sw0 a ++ bw G b v (nI n) f) sz a9 w9 k9 t t1 t2 (bB a sz))) (oQ none (PS G sz n a f) (bB a sz)) 1 16 (bB a sz) := by
  refine oB_bodyI (cc := cJ0_init_db425) (by decide +kernel) rfl rfl (Nat.le_of_ble_eq_true rfl) ?_
  intro p e s m below meth c9 ls hx hb hml hr hlocks hin hown hts hP hK hN hE hz hl
  have hown : s.vm.findClass RJ0 = some m.cls := hown
  have hl : lv_has ls 5 [(0, .ref a), (1, .ref b), (2, .null)] := hl
  have hS : va_S (bB a sz) s.heap s.heap [] := va_S.rf
  have hP0 := (ol_split (w1 := sw0 a) hP).2
  have hA0 : bB a sz a := Or.inl rfl
  have hnb : ∀ (k : Nat) (x : Nat × va_E), (bw G b v (nI n) f)[k]? = some x → ¬ bB a sz x.1 := fun k x hk => by
    match k with
    | 0 => cases hk; rintro (h | h) <;> omega
    | 1 => cases hk; rintro (h | h) <;> omega
    | (k + 2) => simp [bw] at hk
  have hPa : va_P G.1 vwCl (sw0 a) s.heap := (ol_split (w1 := sw0 a) hP).1
  have hPb := hP0
  refine lv_aload_n hx hb dJ0_init_db425_0 rfl (lv_at hl 0 rfl) ?_
  refine W.objInit hx hb hown (hts (.methodLink RJ0 1 objectInit) (List.mem_of_getElem? (i := 1) rfl)) (hts (.instanceMethod objectInit) (List.mem_of_getElem? (i := 2) rfl)) (hts (.code objectInit ⟨#[0xb1]⟩ 1 none) (List.mem_of_getElem? (i := 3) rfl)) rfl (by rw [hml]; exact hl.1) rfl dJ0_init_db425_1 (Nat.le_of_ble_eq_true rfl) (Nat.le_of_ble_eq_true rfl) ?_
  change W _ _ _ _ _ _ _ _ _ _ _ _ _ _ _ (F0 m 4 ls [])
  refine lv_aload_n hx hb dJ0_init_db425_4 rfl (lv_at hl 1 rfl) ?_
  refine oB_cU (q0 := 0) (ci := 1) [] [] ⟨hx, hb, hml, hown, hts⟩ (m_J5_getValue_6d5f1 l G b v hbv (nI n) f sz a9 w9 k9 t t1 t2) (va_cwU 0 hts gJ0_init_db425_J5_getValue_6d5f1_u552J4 rfl rfl rfl rfl (by decide +kernel) ⟨Nat.le_of_ble_eq_true rfl, Nat.le_of_ble_eq_true rfl⟩) hK hN hPb hE hS (fun _ h => h.elim) hz rfl rfl (bw_0 G b v (nI n) f) rfl hl.1 rfl (Nat.le_of_ble_eq_true rfl) dJ0_init_db425_5 ⟨(Nat.le_of_ble_eq_true rfl), (Nat.le_of_ble_eq_true rfl)⟩ (fun H locs hPb hz1 hk1 hS => ?_)
  have hPa := hPa.kept (fun k x hx => hk1 _ (hPa k x hx).lt (fun h => h))
  change W _ _ _ _ _ _ _ _ _ _ _ _ _ _ _ (F0 m 8 ls [.ref v])
  refine lv_astore_n (lv' := [(3, .ref v), (0, .ref a), (1, .ref b), (2, .null)]) hx hb dJ0_init_db425_8 rfl hl (by decide) rfl (fun ls hl => ?_)
  refine lv_aload_n hx hb dJ0_init_db425_9 rfl (lv_at hl 2 rfl) ?_
  refine oB_cU (q0 := 0) (ci := 1) [] [] ⟨hx, hb, hml, hown, hts⟩ (m_J4_length_8abf5 l G b v hbv (nI n) f sz a9 w9 k9 t t1 t2) (va_cwO 0 hts gJ0_init_db425_J4_length_8abf5_u549J4 rfl rfl rfl (List.mem_cons_of_mem _ (List.mem_append_left _ (List.mem_append_left _ (List.mem_of_getElem? (i := 24) rfl)))) (by decide +kernel) ⟨Nat.le_of_ble_eq_true rfl, Nat.le_of_ble_eq_true rfl⟩) hK hN hPb hE hS (fun _ h => h.elim) (Nat.le_trans hz hS.1) rfl rfl (bw_0 G b v (nI n) f) rfl hl.1 rfl (Nat.le_of_ble_eq_true rfl) dJ0_init_db425_10 ⟨(Nat.le_of_ble_eq_true rfl), (Nat.le_of_ble_eq_true rfl)⟩ (fun H locs hPb hz2 hk2 hS => ?_)
  have hPa := hPa.kept (fun k x hx => hk2 _ (hPa k x hx).lt (fun h => h))
  change W _ _ _ _ _ _ _ _ _ _ _ _ _ _ _ (F0 m 13 ls [.int (nI n)])
  refine lv_istore (lv' := [(4, .int (nI n)), (3, .ref v), (0, .ref a), (1, .ref b), (2, .null)]) hx hb dJ0_init_db425_13 hl (by decide) rfl (fun ls hl => ?_)
  refine lv_aload_n hx hb dJ0_init_db425_15 rfl (lv_at hl 3 rfl) ?_
  refine oB_cU (q0 := 0) (ci := 1) [] [] ⟨hx, hb, hml, hown, hts⟩ (m_J5_isLatin1_aae02 l G b v hbv (nI n) f sz a9 w9 k9 t t1 t2) (va_cwU 0 hts gJ0_init_db425_J5_isLatin1_aae02_u1047J4 rfl rfl rfl rfl (by decide +kernel) ⟨Nat.le_of_ble_eq_true rfl, Nat.le_of_ble_eq_true rfl⟩) hK hN hPb hE hS (fun _ h => h.elim) (Nat.le_trans hz hS.1) rfl rfl (bw_0 G b v (nI n) f) rfl hl.1 rfl (Nat.le_of_ble_eq_true rfl) dJ0_init_db425_16 ⟨(Nat.le_of_ble_eq_true rfl), (Nat.le_of_ble_eq_true rfl)⟩ (fun H locs hPb hz3 hk3 hS => ?_)
  have hPa := hPa.kept (fun k x hx => hk3 _ (hPa k x hx).lt (fun h => h))
  change W _ _ _ _ _ _ _ _ _ _ _ _ _ _ _ (F0 m 19 ls [.int 1])
  refine lv_if_eq (tgt := 41) hx hb dJ0_init_db425_19 (by decide) (fun c3 => absurd c3 (by decide)) (fun c3 => ?_)
  refine lv_aload_n hx hb dJ0_init_db425_22 rfl (lv_at hl 2 rfl) ?_
  refine lv_iconst (v := 0) hx hb dJ0_init_db425_23 (by decide) ?_
  refine va_putF (D := G.1) (ci := 0) (v := .int 0) (ty := .byte) (C := RJ0) (T := TJ0) (N := 4) hx hb hts (fun w9 h9 => List.mem_cons_of_mem _ (List.mem_append_left _ (List.mem_append_right _ (h9)))) tyJ0 tyJ0_ok nmJ0 hown hK hPa (va_D1 hA0) hS (0) rfl rfl 1 (by decide) (hts (.fieldLink RJ0 15 "java/lang/String" "coder" "B") (List.mem_of_getElem? (i := 4) rfl)) (fun _ h9 => h9) rfl hin rfl (by decide +kernel) rfl rfl (Nat.le_of_ble_eq_true rfl) dJ0_init_db425_24 (fun H4 locs hPa hD hS => ?_)
  have hPa : va_P G.1 vwCl (sw0 a) H4 := hPa
  have hPb : va_P G.1 vwCl (bw G b v (nI n) f) H4 := hP0.kept (fun k x hx => hS.2.1 _ (hP0 k x hx).lt (hnb k x hx))
  refine lv_aload_n hx hb dJ0_init_db425_27 rfl (lv_at hl 2 rfl) ?_
  refine lv_aload_n hx hb dJ0_init_db425_28 rfl (lv_at hl 1 rfl) ?_
  refine lv_iconst (v := 0) hx hb dJ0_init_db425_29 (by decide) ?_
  refine lv_iload hx hb dJ0_init_db425_30 (lv_at hl 0 rfl) ?_
  refine oB_cSx [.ref v, .int 0, .int (nI n)] [.ref a] ⟨hx, hb, hml, hown, hts⟩ (m_J7_copyOfRange l G b v hbv (nI n) f n hn hfit sz a9 w9 k9 t t1 t2 hbz hvz) (va_cwS 3 hts gJ0_init_db425_J7_copyOfRange_39247 rfl rfl rfl (by decide +kernel) ⟨Nat.le_of_ble_eq_true rfl, Nat.le_of_ble_eq_true rfl⟩) hK hN hPb hE hS (fun _ h => Or.inr h) (Nat.le_trans hz hS.1) rfl hl.1 rfl (Nat.le_of_ble_eq_true rfl) dJ0_init_db425_32 ⟨(Nat.le_of_ble_eq_true rfl), (Nat.le_of_ble_eq_true rfl)⟩ (fun q H5 locs hPq hz5 hk5 hS => ?_)
  obtain ⟨hqz, hPq, -⟩ := hPq
  have haq : a ≠ q := by omega
  have hPa := hPa.kept (fun k x hx => hk5 _ (hPa k x hx).lt (fun h => by
    match k with
    | 0 => cases hx; exact absurd h (Nat.not_le.mpr haz)
    | (k + 1) => simp [sw0] at hx))
  have hPw : va_P G.1 vwCl (sw0 a ++ [(q, .inl (G.2.2 3, n, .inl (va_cpy f (fun _ => 0) 0 0 n)))]) H5 := hPa.app hPq
  refine va_putF (D := G.1) (ci := 0) (v := .ref q) (ty := .array .byte) (C := RJ0) (T := TJ0) (N := 4) hx hb hts (fun w9 h9 => List.mem_cons_of_mem _ (List.mem_append_left _ (List.mem_append_right _ (h9)))) tyJ0 tyJ0_ok nmJ0 hown hK hPw (va_D2 haq hA0 (Or.inr hqz)) hS (0) rfl rfl 0 (by decide) (hts (.fieldLink RJ0 9 "java/lang/String" "value" "[B") (List.mem_of_getElem? (i := 5) rfl)) (fun _ h9 => h9) rfl hin rfl (by decide +kernel) rfl rfl (Nat.le_of_ble_eq_true rfl) dJ0_init_db425_35 (fun H6 locs hPw hD hS => ?_)
  refine lv_goto (tgt := 97) hx hb dJ0_init_db425_38 (by decide) ?_
  exact o_vretM hx hb hr hlocks hS dJ0_init_db425_97 ⟨q, hqz, haq, hPw⟩
set_option maxHeartbeats 4000000 in
set_option maxRecDepth 100000 in
theorem m_J0_init1 (l : Launch) (G : oG) (b v : Nat) (hbv : b ≠ v) (f : Nat → Int32) (n : Nat) (hn : n ≤ 15) (hfit : bfit f n) (a : Nat) (sz a9 w9 k9 : Nat) (t : Nat → Int32) (t1 t2 : Nat) (haz : a < sz) (hbz : b < sz) (hvz : v < sz) (hab : a ≠ b) (hav : a ≠ v) : Met l yJ0_init_81219 wsJ0_init_81219 ({ frames := 4, cells := 1, slots := 16, locals := 130 } : Room) (va_Pc [.ref a, .ref b] (PB G (sw0 a ++ bw G b v (nI n) f) sz a9 w9 k9 t t1 t2 (bB a sz))) (oQ none (PS G sz n a f) (bB a sz)) 1 16 (bB a sz) := by
  refine oB_body (cc := cJ0_init_81219) (by decide +kernel) rfl (Nat.le_of_ble_eq_true rfl) ?_
  intro p e s m below meth c9 ls hx hb hml hr hlocks hown hts hP hK hN hE hz hl
  have hown : s.vm.findClass RJ0 = some m.cls := hown
  have hl : lv_has ls 2 [(0, .ref a), (1, .ref b)] := hl
  have hS : va_S (bB a sz) s.heap s.heap [] := va_S.rf
  refine lv_aload_n hx hb dJ0_init_81219_0 rfl (lv_at hl 0 rfl) ?_
  refine lv_aload_n hx hb dJ0_init_81219_1 rfl (lv_at hl 1 rfl) ?_
  refine lv_null hx hb dJ0_init_81219_2 ?_
  refine oB_cI [.ref b, .null] [] ⟨hx, hb, hml, hown, hts⟩ (m_J0_init2 l G b v hbv f n hn hfit a sz a9 w9 k9 t t1 t2 haz hbz hvz hab hav) (cwI 2 hts gJ0_init_81219_J0_init_db425 rfl rfl rfl (hts (.initialized RJ0) (List.mem_of_getElem? (i := 3) rfl)) (hts (.methodLink RJ0 489 yJ0_init_db425) (List.mem_of_getElem? (i := 1) rfl)) (hts (.instanceMethod yJ0_init_db425) (List.mem_of_getElem? (i := 2) rfl)) rfl (by decide +kernel) ⟨Nat.le_of_ble_eq_true rfl, Nat.le_of_ble_eq_true rfl⟩) hK hN hP hE hS (fun _ h => h) hz rfl hl.1 rfl (Nat.le_of_ble_eq_true rfl) dJ0_init_81219_3 ⟨(Nat.le_of_ble_eq_true rfl), (Nat.le_of_ble_eq_true rfl)⟩ (fun H locs hP _ _ hS => ?_)
  exact o_vretM hx hb hr hlocks hS dJ0_init_81219_6 hP
def PTs (G : oG) (sz n : Nat) (f : Nat → Int32) (a : Nat) (H : Heap) : Prop := sz ≤ a ∧ PS G sz n a f H
set_option maxHeartbeats 4000000 in
set_option maxRecDepth 100000 in
theorem m_J4_toString (l : Launch) (G : oG) (b v : Nat) (hbv : b ≠ v) (f : Nat → Int32) (n : Nat) (hn : n ≤ 15) (hfit : bfit f n) (sz a9 w9 k9 : Nat) (t : Nat → Int32) (t1 t2 : Nat) (hbz : b < sz) (hvz : v < sz) : Met l yJ4_toString_0e30d wsJ4_toString_0e30d ({ frames := 5, cells := 2, slots := 20, locals := 151 } : Room) (va_Pc [.ref b] (PB G (bw G b v (nI n) f) sz a9 w9 k9 t t1 t2 (bS sz))) (oQx (PTs G sz n f) (bS sz)) 2 20 (bS sz) := by
  refine oB_body (cc := cJ4_toString_0e30d) (by decide +kernel) rfl (Nat.le_of_ble_eq_true rfl) ?_
  intro p e s m below meth c9 ls hx hb hml hr hlocks hown hts hP hK hN hE hz hl
  have hown : s.vm.findClass RJ4 = some m.cls := hown
  have hl : lv_has ls 1 [(0, .ref b)] := hl
  have hS : va_S (bS sz) s.heap s.heap [] := va_S.rf
  refine o_newC (ci := 0) (C := RJ0) (T := TJ0) (N := 4) hx hb hts (fun w9 h9 => List.mem_cons_of_mem _ (List.mem_append_left _ (List.mem_append_right _ (h9)))) tyJ0 tyJ0_ok hown (hts (.classLink RJ4 18 RJ0) (List.mem_of_getElem? (i := 1) rfl)) (hts (.instantiable RJ0 4) (List.mem_of_getElem? (i := 2) rfl)) (hts (.initialized RJ0) (List.mem_of_getElem? (i := 3) rfl)) hK hP hS rfl (fs := [.null, .int 0, .int 0, .int 0]) (by decide +kernel) (Nat.le_of_ble_eq_true rfl) (Nat.le_of_ble_eq_true rfl) dJ4_toString_0e30d_0 (fun H hP1 hz1 hk1 hS => ?_)
  obtain ⟨a, ha⟩ : ∃ a, a = s.heap.size := ⟨_, rfl⟩
  rw [← ha] at hP1 hz1 hk1 ⊢
  have haz : sz ≤ a := by omega
  have hPn : va_P G.1 vwCl (sw0 a ++ bw G b v (nI n) f) H := (ol_split hP1).2.app (ol_split hP1).1
  refine lv_dup hx hb dJ4_toString_0e30d_3 rfl ?_
  refine lv_aload_n hx hb dJ4_toString_0e30d_4 rfl (lv_at hl 0 rfl) ?_
  refine oB_cI (sz := a + 1) [.ref b] [.ref a] ⟨hx, hb, hml, hown, hts⟩ (m_J0_init1 l G b v hbv f n hn hfit a (a + 1) a9 w9 k9 t t1 t2 (by omega) (by omega) (by omega) (by omega) (by omega)) (cwI 1 hts gJ4_toString_0e30d_J0_init_81219 rfl rfl rfl (hts (.initialized RJ0) (List.mem_of_getElem? (i := 3) rfl)) (hts (.methodLink RJ4 137 yJ0_init_81219) (List.mem_of_getElem? (i := 4) rfl)) (hts (.instanceMethod yJ0_init_81219) (List.mem_of_getElem? (i := 5) rfl)) rfl (by decide +kernel) ⟨Nat.le_of_ble_eq_true rfl, Nat.le_of_ble_eq_true rfl⟩) hK hN hPn hE hS (fun q h => by rcases h with h | h <;> show sz ≤ q <;> omega) (by omega) rfl hl.1 rfl (Nat.le_of_ble_eq_true rfl) dJ4_toString_0e30d_5 ⟨(Nat.le_of_ble_eq_true rfl), (Nat.le_of_ble_eq_true rfl)⟩ (fun H2 locs hP2 _ _ hS => ?_)
  obtain ⟨q, h1, h2, h3⟩ := hP2
  exact o_aretx hx hb hr (Or.inl ⟨_, rfl⟩) hlocks hS dJ4_toString_0e30d_8 ⟨haz, q, by omega, h2, h3⟩
