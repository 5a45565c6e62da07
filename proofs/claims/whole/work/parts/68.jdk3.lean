/-! A builder made; a text made of it -/
def bw0 (b : Nat) : va_W := [(b, .inr (1, [.null, .int 0, .int 0, .int 0]))]
def bB (b sz : Nat) : Nat → Prop := fun q => q = b ∨ sz ≤ q
def bS (sz : Nat) : Nat → Prop := fun q => sz ≤ q
def PI (G : oG) (b sz : Nat) (H : Heap) : Prop := ∃ v, sz ≤ v ∧ b ≠ v ∧ va_P G.1 vwCl (bw G b v 0 (fun _ => 0)) H
theorem va_T_of {D : va_G} {cl : List vw_C} {tys : List (ClassId × FieldType)} {ws : va_W} {s : State} {H : Heap} {A : Nat → Prop} {cA : ClassId} {v n q0 t0 : Nat} {f : Nat → Int32} (hK : va_K D cl tys s) (ht : tys[t0]? = some (cA, .byte)) (hP : va_P D cl ws H) (hk : ws[q0]? = some (v, .inl (cA, n, .inl f))) (hA : ¬ A v) : va_T .byte v n (fun j => .int (f j)) A s H := by
  have hc : H[v]? = some (arrV cA n (fun j => .int (f j))) := hP q0 _ hk
  refine ⟨_, hc, (hK.2 t0 _ ht).1 n _, (by intro h; cases h), Nat.le_of_eq (arrV_size _ _ _).symm, (by rw [arrV_size]), fun j hj => arrV_read _ _ hj, hA⟩
theorem o_min16 {n : Nat} (h : n ≤ 16) : o_min 16 (nI n) = nI n := by
  have : ∀ n, n < 17 → o_min 16 (nI n) = nI n := by decide +kernel
  exact this n (by omega)
theorem oP_kp {G : oG} {ws : va_W} {H H1 : Heap} {B : Nat → Prop} (h : va_P G.1 vwCl ws H) (hk : ∀ q : Nat, q < H.size → ¬ B q → H1[q]? = H[q]?) (hn : ∀ (k : Nat) (x : Nat × va_E), ws[k]? = some x → ¬ B x.1) : va_P G.1 vwCl ws H1 :=
  h.kept (fun k x hx => hk _ (h k x hx).lt (hn k x hx))
set_option maxHeartbeats 4000000 in
set_option maxRecDepth 100000 in
theorem m_J5_init (l : Launch) (G : oG) (b : Nat) (sz a9 w9 k9 : Nat) (t : Nat → Int32) (t1 t2 : Nat) : Met l yJ5_init_d00df wsJ5_init_d00df ({ frames := 1, cells := 1, slots := 16, locals := 13 } : Room) (va_Pc [.ref b, .int 16] (PB G (bw0 b) sz a9 w9 k9 t t1 t2 (bB b sz))) (oQ none (PI G b sz) (bB b sz)) 1 16 (bB b sz) := by
  refine oB_body (cc := cJ5_init_d00df) (by decide +kernel) rfl (Nat.le_of_ble_eq_true rfl) ?_
  intro p e s m below meth c9 ls hx hb hml hr hlocks hown hts hP hK hN hE hz hl
  have hown : s.vm.findClass RJ5 = some m.cls := hown
  have hl : lv_has ls 2 [(0, .ref b), (1, .int 16)] := hl
  have hS : va_S (bB b sz) s.heap s.heap [] := va_S.rf
  have hbs : b < s.heap.size := (hP 0 _ rfl).lt
  refine lv_aload_n hx hb dJ5_init_d00df_0 rfl (lv_at hl 0 rfl) ?_
  refine W.objInit hx hb hown (hts (.methodLink RJ5 3 objectInit) (List.mem_of_getElem? (i := 1) rfl)) (hts (.instanceMethod objectInit) (List.mem_of_getElem? (i := 2) rfl)) (hts (.code objectInit ⟨#[0xb1]⟩ 1 none) (List.mem_of_getElem? (i := 3) rfl)) rfl (by rw [hml]; exact hl.1) rfl dJ5_init_d00df_1 (Nat.le_of_ble_eq_true rfl) (Nat.le_of_ble_eq_true rfl) ?_
  change W _ _ _ _ _ _ _ _ _ _ _ _ _ _ _ (F0 m 4 ls [])
  refine va_gets hx hb hE.1.1 hS hown (hts (.fieldLink RJ5 18 "java/lang/String" "COMPACT_STRINGS" "Z") (List.mem_of_getElem? (i := 4) rfl)) (fun _ h9 => h9) dJ5_init_d00df_4 ?_
  refine lv_if_eq (tgt := 25) hx hb dJ5_init_d00df_7 (by decide) (fun c3 => absurd c3 (by decide)) (fun c3 => ?_)
  refine lv_aload_n hx hb dJ5_init_d00df_10 rfl (lv_at hl 0 rfl) ?_
  refine lv_iload_n hx hb dJ5_init_d00df_11 rfl (lv_at hl 1 rfl) ?_
  refine o_newP (atype := .byte) hx hb (hts (.arrayClass .byte) (List.mem_of_getElem? (i := 5) rfl)) rfl hK hP hS 3 rfl (a0 := (16, .inl (fun _ => 0))) (N' := 16) (fun cA => rfl) (by decide) (by decide) (Nat.le_of_ble_eq_true rfl) (Nat.le_of_ble_eq_true rfl) (Nat.le_of_ble_eq_true rfl) dJ5_init_d00df_12 (fun H hP hz1 hkp hS => ?_)
  obtain ⟨v, hv⟩ : ∃ v, v = s.heap.size := ⟨_, rfl⟩
  rw [← hv] at hP ⊢
  have hbv : b ≠ v := by omega
  have hP : va_P G.1 vwCl [(b, .inr (1, [.null, .int 0, .int 0, .int 0])), (v, .inl (G.2.2 3, 16, .inl (fun _ => 0)))] H := hP
  have hA0 : bB b sz b := Or.inl rfl
  have hA1 : bB b sz v := Or.inr (by omega)
  refine va_put (D := G.1) (ci := 1) (v := .ref v) (ty := .array .byte) (C := RJ4) (T := TJ4) (N := 4) hx hb hts (fun w9 h9 => List.mem_cons_of_mem _ (List.mem_append_right _ (h9))) tyJ4 tyJ4_ok nmJ4 hown hK hP (va_D2 hbv hA0 hA1) hS (0) rfl rfl 0 (by decide) (hts (.fieldLink RJ5 15 "java/lang/AbstractStringBuilder" "value" "[B") (List.mem_of_getElem? (i := 6) rfl)) (fun _ h9 => h9) rfl (by decide +kernel) rfl rfl (Nat.le_of_ble_eq_true rfl) dJ5_init_d00df_14 (fun H locs hP hD hS => ?_)
  have hP : va_P G.1 vwCl [(b, .inr (1, [.ref v, .int 0, .int 0, .int 0])), (v, .inl (G.2.2 3, 16, .inl (fun _ => 0)))] H := hP
  refine lv_aload_n hx hb dJ5_init_d00df_17 rfl (lv_at hl 0 rfl) ?_
  refine lv_iconst (v := 0) hx hb dJ5_init_d00df_18 (by decide) ?_
  refine va_put (D := G.1) (ci := 1) (v := .int 0) (ty := .byte) (C := RJ4) (T := TJ4) (N := 4) hx hb hts (fun w9 h9 => List.mem_cons_of_mem _ (List.mem_append_right _ (h9))) tyJ4 tyJ4_ok nmJ4 hown hK hP (va_D2 hbv hA0 hA1) hS (0) rfl rfl 1 (by decide) (hts (.fieldLink RJ5 22 "java/lang/AbstractStringBuilder" "coder" "B") (List.mem_of_getElem? (i := 7) rfl)) (fun _ h9 => h9) rfl (by decide +kernel) rfl rfl (Nat.le_of_ble_eq_true rfl) dJ5_init_d00df_19 (fun H locs hP hD hS => ?_)
  refine lv_goto (tgt := 38) hx hb dJ5_init_d00df_22 (by decide) ?_
  exact o_vretM hx hb hr hlocks hS dJ5_init_d00df_38 ⟨v, by omega, hbv, hP⟩
set_option maxHeartbeats 4000000 in
set_option maxRecDepth 100000 in
theorem m_J4_init (l : Launch) (G : oG) (b : Nat) (sz a9 w9 k9 : Nat) (t : Nat → Int32) (t1 t2 : Nat) : Met l yJ4_init_da8c8 wsJ4_init_da8c8 ({ frames := 2, cells := 1, slots := 16, locals := 34 } : Room) (va_Pc [.ref b] (PB G (bw0 b) sz a9 w9 k9 t t1 t2 (bB b sz))) (oQ none (PI G b sz) (bB b sz)) 1 16 (bB b sz) := by
  refine oB_body (cc := cJ4_init_da8c8) (by decide +kernel) rfl (Nat.le_of_ble_eq_true rfl) ?_
  intro p e s m below meth c9 ls hx hb hml hr hlocks hown hts hP hK hN hE hz hl
  have hown : s.vm.findClass RJ4 = some m.cls := hown
  have hl : lv_has ls 1 [(0, .ref b)] := hl
  have hS : va_S (bB b sz) s.heap s.heap [] := va_S.rf
  refine lv_aload_n hx hb dJ4_init_da8c8_0 rfl (lv_at hl 0 rfl) ?_
  refine lv_bipush (v := 16) hx hb dJ4_init_da8c8_1 (by decide) ?_
  refine oB_cI [.int 16] [] ⟨hx, hb, hml, hown, hts⟩ (m_J5_init l G b sz a9 w9 k9 t t1 t2) (cwI 1 hts gJ4_init_da8c8_J5_init_d00df rfl rfl rfl (hts (.initialized RJ5) (List.mem_of_getElem? (i := 3) rfl)) (hts (.methodLink RJ4 1 yJ5_init_d00df) (List.mem_of_getElem? (i := 1) rfl)) (hts (.instanceMethod yJ5_init_d00df) (List.mem_of_getElem? (i := 2) rfl)) rfl (by decide +kernel) ⟨Nat.le_of_ble_eq_true rfl, Nat.le_of_ble_eq_true rfl⟩) hK hN hP hE hS (fun _ h => h) hz rfl hl.1 rfl (Nat.le_of_ble_eq_true rfl) dJ4_init_da8c8_3 ⟨(Nat.le_of_ble_eq_true rfl), (Nat.le_of_ble_eq_true rfl)⟩ (fun H locs hP _ _ hS => ?_)
  exact o_vretM hx hb hr hlocks hS dJ4_init_da8c8_6 hP
set_option maxHeartbeats 4000000 in
set_option maxRecDepth 100000 in
theorem m_J7_checkLength (l : Launch) (G : oG) (wd : va_W) (n : Nat) (hn : n < 2 ^ 31) (sz a9 w9 k9 : Nat) (t : Nat → Int32) (t1 t2 : Nat) : Met l yJ7_checkLength_df160 wsJ7_checkLength_df160 ({ frames := 0, cells := 0, slots := 0, locals := 0 } : Room) (va_Pc [.int 0, .int (nI n)] (PB G wd sz a9 w9 k9 t t1 t2 bF)) (oQ none (fun H9 => va_P G.1 vwCl wd H9) bF) 0 0 bF := by
  refine oB_body (cc := cJ7_checkLength_df160) (by decide +kernel) rfl (Nat.le_of_ble_eq_true rfl) ?_
  intro p e s m below meth c9 ls hx hb hml hr hlocks hown hts hP hK hN hE hz hl
  have hown : s.vm.findClass RJ7 = some m.cls := hown
  have hl : lv_has ls 2 [(0, .int 0), (1, .int (nI n))] := hl
  refine lv_iload_n hx hb dJ7_checkLength_df160_0 rfl (lv_at hl 1 rfl) ?_
  refine lv_iload_n hx hb dJ7_checkLength_df160_1 rfl (lv_at hl 0 rfl) ?_
  refine lv_icmp_ge (tgt := 37) hx hb dJ7_checkLength_df160_2 (by decide) (fun c2 => ?_) (fun c2 => absurd (nI_pos' hn) c2)
  exact o_vretM hx hb hr hlocks va_S.rf dJ7_checkLength_df160_37 hP
/-- a new row of bytes, the builder as it was -/
def PR (G : oG) (b v : Nat) (c : Int32) (f : Nat → Int32) (sz n : Nat) (q : Nat) (H : Heap) : Prop := sz ≤ q ∧ va_P G.1 vwCl [(q, .inl (G.2.2 3, n, .inl (va_cpy f (fun _ => 0) 0 0 n)))] H ∧ va_P G.1 vwCl (bw G b v c f) H
set_option maxHeartbeats 4000000 in
set_option maxRecDepth 100000 in
theorem m_J7_copyOfRangeByte (l : Launch) (G : oG) (b v : Nat) (hbv : b ≠ v) (c : Int32) (f : Nat → Int32) (n : Nat) (hn : n ≤ 16) (hfit : bfit f n) (sz a9 w9 k9 : Nat) (t : Nat → Int32) (t1 t2 : Nat) (hbz : b < sz) (hvz : v < sz) : Met l yJ7_copyOfRangeByte_39247 wsJ7_copyOfRangeByte_39247 ({ frames := 1, cells := 1, slots := 16, locals := 60 } : Room) (va_Pc [.ref v, .int 0, .int (nI n)] (PB G (bw G b v c f) sz a9 w9 k9 t t1 t2 (bS sz))) (oQx (PR G b v c f sz n) (bS sz)) 1 16 (bS sz) := by
  refine oB_body (cc := cJ7_copyOfRangeByte_39247) (by decide +kernel) rfl (Nat.le_of_ble_eq_true rfl) ?_
  intro p e s m below meth c9 ls hx hb hml hr hlocks hown hts hP hK hN hE hz hl
  have hown : s.vm.findClass RJ7 = some m.cls := hown
  have hl : lv_has ls 5 [(0, .ref v), (1, .int 0), (2, .int (nI n))] := hl
  have hS : va_S (bS sz) s.heap s.heap [] := va_S.rf
  have hP0 := hP
  have hnb : ∀ (k : Nat) (x : Nat × va_E), (bw G b v c f)[k]? = some x → ¬ bS sz x.1 := fun k x hk => by
    match k with
    | 0 => cases hk; exact Nat.not_le.mpr hbz
    | 1 => cases hk; exact Nat.not_le.mpr hvz
    | (k + 2) => simp [bw] at hk
  refine lv_iload_n hx hb dJ7_copyOfRangeByte_39247_0 rfl (lv_at hl 1 rfl) ?_
  refine lv_iload_n hx hb dJ7_copyOfRangeByte_39247_1 rfl (lv_at hl 2 rfl) ?_
  refine oB_cS [.int 0, .int (nI n)] [] ⟨hx, hb, hml, hown, hts⟩ (m_J7_checkLength l G (bw G b v c f) n (by omega) sz a9 w9 k9 t t1 t2) (va_cwS 2 hts gJ7_copyOfRangeByte_39247_J7_checkLength_df160 rfl rfl rfl (by decide +kernel) ⟨Nat.le_of_ble_eq_true rfl, Nat.le_of_ble_eq_true rfl⟩) hK hN hP hE hS (fun _ h => h.elim) hz rfl hl.1 rfl (Nat.le_of_ble_eq_true rfl) dJ7_copyOfRangeByte_39247_2 ⟨(Nat.le_of_ble_eq_true rfl), (Nat.le_of_ble_eq_true rfl)⟩ (fun H locs hP hz1 hkp hS => ?_)
  change W _ _ _ _ _ _ _ _ _ _ _ _ _ _ _ (F0 m 5 ls [])
  refine lv_iload_n hx hb dJ7_copyOfRangeByte_39247_5 rfl (lv_at hl 2 rfl) ?_
  refine lv_iload_n hx hb dJ7_copyOfRangeByte_39247_6 rfl (lv_at hl 1 rfl) ?_
  refine lv_isub hx hb dJ7_copyOfRangeByte_39247_7 ?_
  rw [Int32.sub_zero]
  refine lv_istore_n (lv' := [(3, .int (nI n)), (0, .ref v), (1, .int 0), (2, .int (nI n))]) hx hb dJ7_copyOfRangeByte_39247_8 rfl hl (by decide) rfl (fun ls hl => ?_)
  refine lv_iload_n hx hb dJ7_copyOfRangeByte_39247_9 rfl (lv_at hl 0 rfl) ?_
  refine o_newP (atype := .byte) hx hb (hts (.arrayClass .byte) (List.mem_of_getElem? (i := 1) rfl)) rfl hK hP hS 3 rfl (a0 := (n, .inl (fun _ => 0))) (N' := n) (fun cA => rfl) (nI_pos (by omega)) (nI_clamp (by omega)) (by show n * 1 ≤ 536870912; omega) (Nat.le_of_ble_eq_true rfl) (show 0 + 0 + n ≤ 16 by omega) dJ7_copyOfRangeByte_39247_10 (fun H1 hP hz2 hkp2 hS => ?_)
  obtain ⟨q, hq⟩ : ∃ q, q = H.size := ⟨_, rfl⟩
  rw [← hq] at hP hz2 hkp2 ⊢
  have hP : va_P G.1 vwCl (bw G b v c f ++ [(q, .inl (G.2.2 3, n, .inl (fun _ => 0)))]) H1 := hP
  have hqz : sz ≤ q := by omega
  refine lv_astore (lv' := [(4, .ref q), (3, .int (nI n)), (0, .ref v), (1, .int 0), (2, .int (nI n))]) hx hb dJ7_copyOfRangeByte_39247_12 hl (by decide) rfl (fun ls hl => ?_)
  refine lv_aload_n hx hb dJ7_copyOfRangeByte_39247_14 rfl (lv_at hl 2 rfl) ?_
  refine lv_iload_n hx hb dJ7_copyOfRangeByte_39247_15 rfl (lv_at hl 3 rfl) ?_
  refine lv_aload hx hb dJ7_copyOfRangeByte_39247_16 (lv_at hl 0 rfl) ?_
  refine lv_iconst (v := 0) hx hb dJ7_copyOfRangeByte_39247_18 (by decide) ?_
  refine lv_aload_n hx hb dJ7_copyOfRangeByte_39247_19 rfl (lv_at hl 2 rfl) ?_
  refine va_alen (v := 16) hx hb hK hP (1) 3 (wl_app (bw_1 G b v c f)) rfl (show Int32.ofNat 16 = 16 by decide) dJ7_copyOfRangeByte_39247_20 ?_
  refine lv_iload_n hx hb dJ7_copyOfRangeByte_39247_21 rfl (lv_at hl 3 rfl) ?_
  refine lv_isub hx hb dJ7_copyOfRangeByte_39247_22 ?_
  rw [Int32.sub_zero]
  refine lv_iload_n hx hb dJ7_copyOfRangeByte_39247_23 rfl (lv_at hl 1 rfl) ?_
  refine va_mmin (rest := [.int 0, .ref q, .int 0, .ref v]) hx hb (hml.trans hl.1.symm) hown (hts (.methodLink RJ7 304 Lib.Math.min.name) (List.mem_of_getElem? (i := 2) rfl)) (hts (.static Lib.Math.min.name) (List.mem_of_getElem? (i := 3) rfl)) (hts (.initialized "java/lang/Math") (List.mem_of_getElem? (i := 4) rfl)) (hts (.code Lib.Math.min.name Lib.Math.min.code 2 (some .int)) (List.mem_of_getElem? (i := 5) rfl)) (Nat.le_of_ble_eq_true rfl) (Nat.le_of_ble_eq_true rfl) (Nat.le_of_ble_eq_true rfl) (show 0 + 0 + n ≤ 16 by omega) dJ7_copyOfRangeByte_39247_24 ?_
  change W _ _ _ _ _ _ _ _ _ _ _ _ _ _ _ (F0 m 27 ls (.int (o_min 16 (nI n)) :: _))
  rw [o_min16 hn]
  have hPq : va_P G.1 vwCl [(q, .inl (G.2.2 3, n, .inl (fun _ => 0)))] H1 := (ol_split hP).2
  refine o_copyT (rest := []) (d := 0) (n := n) hx hb (hml.trans hl.1.symm) hown (hts (.methodLink RJ7 150 arraycopyName) (List.mem_of_getElem? (i := 6) rfl)) (hts (.native arraycopyName) (List.mem_of_getElem? (i := 7) rfl)) (hts (.static arraycopyName) (List.mem_of_getElem? (i := 8) rfl)) (hts (.initialized "java/lang/System") (List.mem_of_getElem? (i := 9) rfl)) hK hPq (va_D1 (show bS sz q from hqz)) hS (va_T_of hK (t0 := 3) rfl hP0 (bw_1 G b v c f) (Nat.not_le.mpr hvz)) 0 3 rfl rfl (show 0 < 2 ^ 31 by decide) (show n < 2 ^ 31 by omega) hn (by omega) hfit (Nat.le_of_ble_eq_true rfl) (Nat.le_of_ble_eq_true rfl) dJ7_copyOfRangeByte_39247_27 (fun H2 locs2 hPq hD hS => ?_)
  refine lv_aload hx hb dJ7_copyOfRangeByte_39247_30 (lv_at hl 0 rfl) ?_
  refine o_widen (k := 1) (n := 16) (Nat.le_of_ble_eq_true rfl) (show 0 + 0 + n ≤ 16 by omega) ?_
  refine o_aretx hx hb hr (Or.inr ⟨_, rfl⟩) hlocks hS dJ7_copyOfRangeByte_39247_32 ⟨hqz, hPq, hP0.kept (fun k x hx => hS.2.1 _ (hP0 k x hx).lt (hnb k x hx))⟩
