/-! String's own methods -/
section OBRET
variable {p : Program} {l : Launch} {e : Env} {R : Room} {s : State} {m : MethodId} {args : Array Value} {below : List Frame} {meth : Method} {c : Code}
  {cc : ByteArray} {pc : Nat} {ls : Array Slot} {free : Addr → Prop}
theorem o_bretR {v r : Int32} (hx : p.tables.exec = Jvm.exec) (hb : c.code = cc) (hr : meth.sig.returnType = some .byte) (hlocks : meth.locks = false) (hdg : decode cc pc = .ok (.ireturn, 1)) (hn : narrow .byte (.int v) = .int v) (he : v = r) : W p l e R s m args below meth c s.heap [] 0 0 (MQ below (oR (some (.int r))) args s 0 0 free) (F0 m pc ls [.int v]) := by
  subst he
  intro T hT X
  obtain ⟨fs, hret, hrun, hended, hW, hframe⟩ := X.leave (v := some (.int v)) (hlocks := hlocks) (fun h => by rw [hr] at h; cases h)
  have hmeth' : T.vm.method? m = some meth := X.method'
  refine ⟨T.setFrames fs, ?_, .returned (some (.int v)), hrun, hended, ⟨rfl, hT⟩, [], ⟨⟨_, rfl⟩, hW, hframe⟩, fun q hq => absurd hq List.not_mem_nil⟩
  jvm_step X.here [X.here.top, hx, hb, hdg, hmeth', hr, hn]
  (try refine ⟨rfl, ?_⟩); (try refine ⟨rfl, ?_⟩)
  first | (intro acts; rw [hret _ acts rfl rfl rfl]) | rw [hret _ _ rfl rfl rfl]
  exact Steps.refl _
theorem o_cretR {v r : Int32} (hx : p.tables.exec = Jvm.exec) (hb : c.code = cc) (hr : meth.sig.returnType = some .char) (hlocks : meth.locks = false) (hdg : decode cc pc = .ok (.ireturn, 1)) (hn : narrow .char (.int v) = .int v) (he : v = r) : W p l e R s m args below meth c s.heap [] 0 0 (MQ below (oR (some (.int r))) args s 0 0 free) (F0 m pc ls [.int v]) := by
  subst he
  intro T hT X
  obtain ⟨fs, hret, hrun, hended, hW, hframe⟩ := X.leave (v := some (.int v)) (hlocks := hlocks) (fun h => by rw [hr] at h; cases h)
  have hmeth' : T.vm.method? m = some meth := X.method'
  refine ⟨T.setFrames fs, ?_, .returned (some (.int v)), hrun, hended, ⟨rfl, hT⟩, [], ⟨⟨_, rfl⟩, hW, hframe⟩, fun q hq => absurd hq List.not_mem_nil⟩
  jvm_step X.here [X.here.top, hx, hb, hdg, hmeth', hr, hn]
  (try refine ⟨rfl, ?_⟩); (try refine ⟨rfl, ?_⟩)
  first | (intro acts; rw [hret _ acts rfl rfl rfl]) | rw [hret _ _ rfl rfl rfl]
  exact Steps.refl _
end OBRET
theorem m_J0_coder (l : Launch) (a v n : Nat) (f : Nat → Int32) : Met l yJ0_coder_7d493 wsJ0_coder_7d493 ({ frames := 0, cells := 0, slots := 0, locals := 0 } : Room) (va_Pc [.ref a] (oSR a v n f)) (oR (some (.int 0))) 0 0 (fun _ => False) := by
  refine oS_body (cc := cJ0_coder_7d493) (by decide +kernel) rfl (Nat.le_of_ble_eq_true rfl) ?_
  intro p e s m below meth c ls hx hb hml hr hlocks hown hts hT hZ hl
  have hown : s.vm.findClass RJ0 = some m.cls := hown
  obtain ⟨hO, hC, hV, hB⟩ := hT
  have hl : lv_has ls 1 [(0, .ref a)] := hl
  refine va_gets hx hb hZ.1 va_S.rf hown (hts (.fieldLink RJ0 38 "java/lang/String" "COMPACT_STRINGS" "Z") (List.mem_of_getElem? (i := 1) rfl)) (fun _ h => h) dJ0_coder_7d493_0 ?_
  refine lv_if_eq (tgt := 13) hx hb dJ0_coder_7d493_3 (by decide) (fun c3 => ?_) (fun c3 => ?_)
  · exact absurd c3 (by decide)
  refine lv_aload_n hx hb dJ0_coder_7d493_6 rfl (lv_at hl 0 rfl) ?_
  refine vk_getf hx hb hC va_S.rf hown (hts (.fieldLink RJ0 15 "java/lang/String" "coder" "B") (List.mem_of_getElem? (i := 2) rfl)) (fun _ h => h) dJ0_coder_7d493_7 ?_
  refine lv_goto (tgt := 14) hx hb dJ0_coder_7d493_10 (by decide) ?_
  exact o_bretR hx hb hr hlocks dJ0_coder_7d493_14 rfl rfl
theorem m_J0_isLatin1 (l : Launch) (a v n : Nat) (f : Nat → Int32) : Met l yJ0_isLatin1_aae02 wsJ0_isLatin1_aae02 ({ frames := 0, cells := 0, slots := 0, locals := 0 } : Room) (va_Pc [.ref a] (oSR a v n f)) (oR (some (.int 1))) 0 0 (fun _ => False) := by
  refine oS_body (cc := cJ0_isLatin1_aae02) (by decide +kernel) rfl (Nat.le_of_ble_eq_true rfl) ?_
  intro p e s m below meth c ls hx hb hml hr hlocks hown hts hT hZ hl
  have hown : s.vm.findClass RJ0 = some m.cls := hown
  obtain ⟨hO, hC, hV, hB⟩ := hT
  have hl : lv_has ls 1 [(0, .ref a)] := hl
  refine va_gets hx hb hZ.1 va_S.rf hown (hts (.fieldLink RJ0 38 "java/lang/String" "COMPACT_STRINGS" "Z") (List.mem_of_getElem? (i := 1) rfl)) (fun _ h => h) dJ0_isLatin1_aae02_0 ?_
  refine lv_if_eq (tgt := 17) hx hb dJ0_isLatin1_aae02_3 (by decide) (fun c3 => ?_) (fun c3 => ?_)
  · exact absurd c3 (by decide)
  refine lv_aload_n hx hb dJ0_isLatin1_aae02_6 rfl (lv_at hl 0 rfl) ?_
  refine vk_getf hx hb hC va_S.rf hown (hts (.fieldLink RJ0 15 "java/lang/String" "coder" "B") (List.mem_of_getElem? (i := 2) rfl)) (fun _ h => h) dJ0_isLatin1_aae02_7 ?_
  refine lv_if_ne (tgt := 17) hx hb dJ0_isLatin1_aae02_10 (by decide) (fun c3 => ?_) (fun c3 => ?_)
  · exact absurd rfl c3
  refine lv_iconst (v := 1) hx hb dJ0_isLatin1_aae02_13 (by decide) ?_
  refine lv_goto (tgt := 18) hx hb dJ0_isLatin1_aae02_14 (by decide) ?_
  exact o_zretR hx hb hr hlocks dJ0_isLatin1_aae02_18 (Or.inr rfl) rfl
theorem m_J0_length (l : Launch) (a v n : Nat) (f : Nat → Int32) : Met l yJ0_length_8abf5 wsJ0_length_8abf5 ({ frames := 1, cells := 0, slots := 0, locals := 20 } : Room) (va_Pc [.ref a] (oSR a v n f)) (oR (some (.int (nI n)))) 0 0 (fun _ => False) := by
  refine oS_body (cc := cJ0_length_8abf5) (by decide +kernel) rfl (Nat.le_of_ble_eq_true rfl) ?_
  intro p e s m below meth c ls hx hb hml hr hlocks hown hts hT hZ hl
  have hown : s.vm.findClass RJ0 = some m.cls := hown
  have hT0 := hT
  obtain ⟨hO, hC, hV, hB⟩ := hT
  have hl : lv_has ls 1 [(0, .ref a)] := hl
  refine lv_aload_n hx hb dJ0_length_8abf5_0 rfl (lv_at hl 0 rfl) ?_
  refine vk_getf hx hb hV va_S.rf hown (hts (.fieldLink RJ0 9 "java/lang/String" "value" "[B") (List.mem_of_getElem? (i := 1) rfl)) (fun _ h => h) dJ0_length_8abf5_1 ?_
  refine va_tlen (v := nI n) hx hb hB va_S.rf rfl dJ0_length_8abf5_4 ?_
  refine lv_aload_n hx hb dJ0_length_8abf5_5 rfl (lv_at hl 0 rfl) ?_
  refine oS_cV [] [.int (nI n)] ⟨hx, hb, hml, hown, hts⟩ (m_J0_coder l a v n f) (cwV 0 hts gJ0_length_8abf5_J0_coder_7d493 rfl rfl rfl (by decide +kernel) ⟨Nat.le_of_ble_eq_true rfl, Nat.le_of_ble_eq_true rfl⟩) hT0 hZ va_S.rf rfl hl.1 rfl (Nat.le_of_ble_eq_true rfl) dJ0_length_8abf5_6 ⟨Nat.zero_le _, Nat.zero_le _⟩ ?_
  refine lv_ishr hx hb dJ0_length_8abf5_9 ?_
  exact o_iretR hx hb hr hlocks dJ0_length_8abf5_10 (sb_shr0 _)
theorem m_J3_checkIndex (l : Launch) (a v n : Nat) (f : Nat → Int32) (k N : Nat) (w : Value) (hw : w = .null ∨ ∃ t, w = .ref t) (hk : k < N) (hN : N < 2 ^ 31) : Met l yJ3_checkIndex_8e157 wsJ3_checkIndex_8e157 ({ frames := 0, cells := 0, slots := 0, locals := 0 } : Room) (va_Pc [.int (nI k), .int (nI N), w] (oSR a v n f)) (oR (some (.int (nI k)))) 0 0 (fun _ => False) := by
  refine oS_body (cc := cJ3_checkIndex_8e157) (by decide +kernel) rfl (by rcases hw with rfl | ⟨t, rfl⟩ <;> exact Nat.le_of_ble_eq_true rfl) ?_
  intro p e s m below meth c ls hx hb hml hr hlocks hown hts hT hZ hl
  have hl : lv_has ls 3 [(0, .int (nI k)), (1, .int (nI N)), (2, w)] := by rcases hw with rfl | ⟨t, rfl⟩ <;> exact hl
  refine lv_iload_n hx hb dJ3_checkIndex_8e157_0 rfl (lv_at hl 0 rfl) ?_
  refine lv_if_lt (tgt := 9) hx hb dJ3_checkIndex_8e157_1 (by decide) (fun c3 => ?_) (fun c3 => ?_)
  · exact absurd c3 (nI_pos (by omega))
  refine lv_iload_n hx hb dJ3_checkIndex_8e157_4 rfl (lv_at hl 0 rfl) ?_
  refine lv_iload_n hx hb dJ3_checkIndex_8e157_5 rfl (lv_at hl 1 rfl) ?_
  refine lv_icmp_lt (tgt := 16) hx hb dJ3_checkIndex_8e157_6 (by decide) (fun c3 => ?_) (fun c3 => ?_)
  · refine lv_iload_n hx hb dJ3_checkIndex_8e157_16 rfl (lv_at hl 0 rfl) ?_
    exact o_iretR hx hb hr hlocks dJ3_checkIndex_8e157_17 rfl
  · exact absurd (nI_lt hk hN) c3
theorem m_J0_checkIndex (l : Launch) (a v n : Nat) (f : Nat → Int32) (k N : Nat) (hk : k < N) (hN : N < 2 ^ 31) : Met l yJ0_checkIndex_df160 wsJ0_checkIndex_df160 ({ frames := 1, cells := 0, slots := 0, locals := 22 } : Room) (va_Pc [.int (nI k), .int (nI N)] (oSR a v n f)) (oR none) 0 0 (fun _ => False) := by
  refine oS_body (cc := cJ0_checkIndex_df160) (by decide +kernel) rfl (Nat.le_of_ble_eq_true rfl) ?_
  intro p e s m below meth c ls hx hb hml hr hlocks hown hts hT hZ hl
  have hown : s.vm.findClass RJ0 = some m.cls := hown
  have hl : lv_has ls 2 [(0, .int (nI k)), (1, .int (nI N))] := hl
  have main : ∀ w : Value, (w = .null ∨ ∃ t, w = .ref t) → va_Z "jdk/internal/util/Preconditions" "SIOOBE_FORMATTER" "Ljava/util/function/BiFunction;" w (fun _ => False) s s.heap → W p l e ({ frames := 1, cells := 0, slots := 0, locals := 22 } : Room) s m ([.int (nI k), .int (nI N)] : List Value).toArray below meth c s.heap [] 0 0 (MQ below (oR none) ([.int (nI k), .int (nI N)] : List Value).toArray s 0 0 (fun _ => False)) (F0 m 0 ls []) := by
    intro w hw hZw
    refine lv_iload_n hx hb dJ0_checkIndex_df160_0 rfl (lv_at hl 0 rfl) ?_
    refine lv_iload_n hx hb dJ0_checkIndex_df160_1 rfl (lv_at hl 1 rfl) ?_
    refine va_gets hx hb hZw va_S.rf hown (hts (.fieldLink RJ0 1053 "jdk/internal/util/Preconditions" "SIOOBE_FORMATTER" "Ljava/util/function/BiFunction;") (List.mem_of_getElem? (i := 1) rfl)) (fun _ h => h) dJ0_checkIndex_df160_2 ?_
    refine oS_cS [.int (nI k), .int (nI N), w] [] ⟨hx, hb, hml, hown, hts⟩ (m_J3_checkIndex l a v n f k N w hw hk hN) (va_cwS 3 hts gJ0_checkIndex_df160_J3_checkIndex_8e157 rfl rfl rfl (by decide +kernel) ⟨Nat.le_of_ble_eq_true rfl, Nat.le_of_ble_eq_true rfl⟩) hT hZ va_S.rf rfl hl.1 rfl (Nat.le_of_ble_eq_true rfl) dJ0_checkIndex_df160_5 ⟨Nat.zero_le _, Nat.zero_le _⟩ ?_
    refine lv_pop hx hb dJ0_checkIndex_df160_8 rfl ?_
    exact o_vretR hx hb hr hlocks dJ0_checkIndex_df160_9
  rcases hZ.2 with h | ⟨t, h⟩
  · exact main _ (Or.inl rfl) h
  · exact main _ (Or.inr ⟨t, rfl⟩) h
/-- a letter as charAt gives it -/
def oCh (x : Int32) : Int32 := ((x &&& 255).toUInt32 % 65536).toInt32
theorem m_J1_charAt (l : Launch) (a v n : Nat) (f : Nat → Int32) (hn : n < 2 ^ 31) (k : Nat) (hk : k < n) (hc : narrow .char (.int (oCh (f k))) = .int (oCh (f k))) : Met l yJ1_charAt_3b067 wsJ1_charAt_3b067 ({ frames := 2, cells := 0, slots := 0, locals := 43 } : Room) (va_Pc [.ref v, .int (nI k)] (oSR a v n f)) (oR (some (.int (oCh (f k))))) 0 0 (fun _ => False) := by
  refine oS_body (cc := cJ1_charAt_3b067) (by decide +kernel) rfl (Nat.le_of_ble_eq_true rfl) ?_
  intro p e s m below meth c ls hx hb hml hr hlocks hown hts hT hZ hl
  have hown : s.vm.findClass RJ1 = some m.cls := hown
  have hB := hT.2.2.2
  have hl : lv_has ls 2 [(0, .ref v), (1, .int (nI k))] := hl
  refine lv_iload_n hx hb dJ1_charAt_3b067_0 rfl (lv_at hl 1 rfl) ?_
  refine lv_aload_n hx hb dJ1_charAt_3b067_1 rfl (lv_at hl 0 rfl) ?_
  refine va_tlen (v := nI n) hx hb hB va_S.rf rfl dJ1_charAt_3b067_2 ?_
  refine oS_cS [.int (nI k), .int (nI n)] [] ⟨hx, hb, hml, hown, hts⟩ (m_J0_checkIndex l a v n f k n hk hn) (va_cwS 2 hts gJ1_charAt_3b067_J0_checkIndex_df160 rfl rfl rfl (by decide +kernel) ⟨Nat.le_of_ble_eq_true rfl, Nat.le_of_ble_eq_true rfl⟩) hT hZ va_S.rf rfl hl.1 rfl (Nat.le_of_ble_eq_true rfl) dJ1_charAt_3b067_3 ⟨Nat.zero_le _, Nat.zero_le _⟩ ?_
  refine lv_aload_n hx hb dJ1_charAt_3b067_6 rfl (lv_at hl 0 rfl) ?_
  refine lv_iload_n hx hb dJ1_charAt_3b067_7 rfl (lv_at hl 1 rfl) ?_
  refine va_tb (v := .int (f k)) hx hb hB va_S.rf (vp_in_nI hk hn) (by rw [nI_clamp (by omega)]) dJ1_charAt_3b067_8 ?_
  refine lv_sipush (v := 255) hx hb dJ1_charAt_3b067_9 (by decide) ?_
  refine lv_iand hx hb dJ1_charAt_3b067_12 ?_
  refine lv_i2c (v := oCh (f k)) hx hb dJ1_charAt_3b067_13 rfl ?_
  exact o_cretR hx hb hr hlocks dJ1_charAt_3b067_14 hc rfl
theorem m_J0_charAt (l : Launch) (a v n : Nat) (f : Nat → Int32) (hn : n < 2 ^ 31) (k : Nat) (hk : k < n) (hc : narrow .char (.int (oCh (f k))) = .int (oCh (f k))) : Met l yJ0_charAt_5068e wsJ0_charAt_5068e ({ frames := 3, cells := 0, slots := 0, locals := 64 } : Room) (va_Pc [.ref a, .int (nI k)] (oSR a v n f)) (oR (some (.int (oCh (f k))))) 0 0 (fun _ => False) := by
  refine oS_body (cc := cJ0_charAt_5068e) (by decide +kernel) rfl (Nat.le_of_ble_eq_true rfl) ?_
  intro p e s m below meth c ls hx hb hml hr hlocks hown hts hT hZ hl
  have hown : s.vm.findClass RJ0 = some m.cls := hown
  have hV := hT.2.2.1
  have hl : lv_has ls 2 [(0, .ref a), (1, .int (nI k))] := hl
  refine lv_aload_n hx hb dJ0_charAt_5068e_0 rfl (lv_at hl 0 rfl) ?_
  refine oS_cV [] [] ⟨hx, hb, hml, hown, hts⟩ (m_J0_isLatin1 l a v n f) (cwV 0 hts gJ0_charAt_5068e_J0_isLatin1_aae02 rfl rfl rfl (by decide +kernel) ⟨Nat.le_of_ble_eq_true rfl, Nat.le_of_ble_eq_true rfl⟩) hT hZ va_S.rf rfl hl.1 rfl (Nat.le_of_ble_eq_true rfl) dJ0_charAt_5068e_1 ⟨Nat.zero_le _, Nat.zero_le _⟩ ?_
  refine lv_if_eq (tgt := 16) hx hb dJ0_charAt_5068e_4 (by decide) (fun c3 => ?_) (fun c3 => ?_)
  · exact absurd c3 (by decide)
  refine lv_aload_n hx hb dJ0_charAt_5068e_7 rfl (lv_at hl 0 rfl) ?_
  refine vk_getf hx hb hV va_S.rf hown (hts (.fieldLink RJ0 9 "java/lang/String" "value" "[B") (List.mem_of_getElem? (i := 1) rfl)) (fun _ h => h) dJ0_charAt_5068e_8 ?_
  refine lv_iload_n hx hb dJ0_charAt_5068e_11 rfl (lv_at hl 1 rfl) ?_
  refine oS_cS [.ref v, .int (nI k)] [] ⟨hx, hb, hml, hown, hts⟩ (m_J1_charAt l a v n f hn k hk hc) (va_cwS 2 hts gJ0_charAt_5068e_J1_charAt_3b067 rfl rfl rfl (by decide +kernel) ⟨Nat.le_of_ble_eq_true rfl, Nat.le_of_ble_eq_true rfl⟩) hT hZ va_S.rf rfl hl.1 rfl (Nat.le_of_ble_eq_true rfl) dJ0_charAt_5068e_12 ⟨Nat.zero_le _, Nat.zero_le _⟩ ?_
  exact o_cretR hx hb hr hlocks dJ0_charAt_5068e_15 hc rfl
