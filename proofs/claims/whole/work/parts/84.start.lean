/-! The law from its start -/
set_option maxHeartbeats 16000000 in
set_option maxRecDepth 100000 in
theorem law_loop {p : Program} {l : Launch} {e : Env} {s : State} {m : MethodId} {below : List Frame} {meth : Method} {c : Code} (hst : l.stackTraces = false) {D : va_G} {kl : Nat → ClassId} {a1 v1 a2 v2 a3 v3 a4 v4 a5 v5 t1 t2 b L b0 : Nat} {xs : Nat → Int32} (hL : L ≤ 2048) (C0 : lw_At p s m meth c b L xs) (hE9 : lwE D kl s a1 v1 a2 v2 a3 v3 a4 v4 a5 v5 t1 t2) (hb0 : b0 = s.heap.size) :
    ∀ (n k : Nat), 4 * k ≤ L → L + 1 ≤ 4 * k + 4 * n → ∀ (α β γ τ σ δ : oT) (nS nO nH : Nat) (f : Nat → Int64) (H : Heap) (locs : List Loc), rT α β γ τ δ nS nO nH → nH ≤ 100 * k → va_P D vwCl (cw (D, ga b0, kl) (z3 α β γ)) H → va_P D vwCl (mw (D, ga (b0 + 137), kl) (z3 τ σ δ)) H → va_P D vwCl (lw1 (D, ga b0, kl) (b0 + 176) f) H → va_S (sFrom b0) s.heap H locs → b0 + 177 ≤ H.size → ∀ ls : Array Slot, lv_has ls 9 [(0, .ref b), (1, .ref (ga b0 0)), (2, .ref (ga (b0 + 137) 0)), (3, .ref (b0 + 176)), (4, .int (nI (4 * k)))] → W p l e room_1 s m #[Value.ref b] below meth c H locs (177 + 100 * k) (3360 + 1100 * k) (lw_Z below #[Value.ref b] s) (F0 m 23 ls []) := by
  intro n
  induction n with
  | zero => exact fun k h1 h2 => absurd h2 (by omega)
  | succ n ih =>
    intro k h1 h2 α β γ τ σ δ nS nO nH f H locs hT hH hPc hPm hPo hS hz ls hl
    obtain ⟨hx, hb, hr, hml, hown, htb, hX, hbl, hlocks, hgv⟩ := id C0
    have hbA : ¬ sFrom b0 b := fun q => by simp only [sFrom] at q; omega
    refine lv_iload hx hb dL_law_23 (lv_at hl 4 rfl) ?_
    refine lv_aload_n hx hb dL_law_25 rfl (lv_at hl 0 rfl) ?_
    refine va_slen hx hb hX hbl hbA hS dL_law_26 ?_
    refine lv_iconst (v := 4) hx hb dL_law_27 (by decide) ?_
    refine lv_isub hx hb dL_law_28 ?_
    refine lv_icmp_gt (tgt := 1330) hx hb dL_law_29 (by decide) (fun c7 => ?_) (fun c7 => ?_)
    · refine lv_iconst (v := 1) hx hb dL_law_1330 (by decide) ?_
      refine va_forget (fun q hq => by have h9 := hS.2.2 q hq; simp only [sFrom] at h9; omega) ?_
      refine o_widen (k := 846345) (n := 6557069) (by omega) (by omega) ?_
      exact W.base (lw_ret (Drawn.sameBut.refl s.drawn lw_cs) hx hb hr hlocks dL_law_1331)
    · have hk4 : 4 * k + 4 ≤ L := by
        rcases Nat.lt_or_ge L 4 with q | q
        · exfalso
          refine c7 ?_
          have h0 : nI L - 4 < 0 := pk_sneg (b := 4) (by decide) q
          exact Int32.lt_of_lt_of_le h0 (nI_pos' (by omega))
        · have e4 : Int32.ofNat L - 4 = nI (L - 4) := pk_sub (b := 4) q
          rw [e4] at c7
          rcases Nat.lt_or_ge (L - 4) (4 * k) with q2 | q2
          · exact absurd (nI_lt q2 (by omega)) c7
          · omega
      have nx : lNx p l e s m below meth c D kl b b0 k := by
        intro α β γ τ σ δ nS nO nH f H locs hT hH hPc hPm hPo hS hz ls hl
        refine lv_iinc (v := nI (4 * (k + 1))) (lv' := [(4, .int (nI (4 * (k + 1)))), (0, .ref b), (1, .ref (ga b0 0)), (2, .ref (ga (b0 + 137) 0)), (3, .ref (b0 + 176))]) hx hb dL_law_1324 hl (k := 4) rfl (show nI (4 * k) + 4 = nI (4 * (k + 1)) from nI_add (4 * k) 4) (by decide) rfl (fun ls hl => ?_)
        refine lv_goto (tgt := 23) hx hb dL_law_1327 (by decide) ?_
        exact ih (k + 1) (by omega) (by omega) _ _ _ _ _ _ _ _ _ _ _ _ hT hH hPc hPm hPo hS hz ls (lv_sub hl [1, 2, 3, 4, 0] rfl)
      refine lv_aload_n hx hb dL_law_32 rfl (lv_at hl 0 rfl) ?_
      refine lv_iload hx hb dL_law_33 (lv_at hl 4 rfl) ?_
      refine va_sld hx hb hX hbl hbA hS (vp_in_nI (by omega) (by omega)) dL_law_35 ?_
      refine lv_bipush (v := 31) hx hb dL_law_36 (by decide) ?_
      refine lv_iand hx hb dL_law_38 ?_
      obtain ⟨j, hj, ej⟩ := pk_andE (xs (nI (4 * k)).toNatClampNeg) (m := 31) 5 (by decide)
      rw [ej]
      rcases (show j = 0 ∨ j = 1 ∨ j = 2 ∨ j = 3 ∨ j = 4 ∨ j = 5 ∨ j = 6 ∨ j = 7 ∨ j = 8 ∨ j = 9 ∨ j = 10 ∨ j = 11 ∨ j = 12 ∨ j = 13 ∨ j = 14 ∨ j = 15 ∨ j = 16 ∨ j = 17 ∨ j = 18 ∨ 18 < j by omega) with rfl | rfl | rfl | rfl | rfl | rfl | rfl | rfl | rfl | rfl | rfl | rfl | rfl | rfl | rfl | rfl | rfl | rfl | rfl | q
      · exact lv_tableIn (tgt := 128) hx hb dL_law_39 (by decide) (by decide) (off := 89) (by decide) (by decide) (law_c128 hst hL C0 hE9 hb0 hk4 nx hT hH hPc hPm hPo hS hz hl)
      · exact lv_tableIn (tgt := 184) hx hb dL_law_39 (by decide) (by decide) (off := 145) (by decide) (by decide) (law_c184 hst hL C0 hE9 hb0 hk4 nx hT hH hPc hPm hPo hS hz hl)
      · exact lv_tableIn (tgt := 264) hx hb dL_law_39 (by decide) (by decide) (off := 225) (by decide) (by decide) (law_c264 hst hL C0 hE9 hb0 hk4 nx hT hH hPc hPm hPo hS hz hl)
      · exact lv_tableIn (tgt := 344) hx hb dL_law_39 (by decide) (by decide) (off := 305) (by decide) (by decide) (law_c344 hst hL C0 hE9 hb0 hk4 nx hT hH hPc hPm hPo hS hz hl)
      · exact lv_tableIn (tgt := 412) hx hb dL_law_39 (by decide) (by decide) (off := 373) (by decide) (by decide) (law_c412 hst hL C0 hE9 hb0 hk4 nx hT hH hPc hPm hPo hS hz hl)
      · exact lv_tableIn (tgt := 508) hx hb dL_law_39 (by decide) (by decide) (off := 469) (by decide) (by decide) (law_c508 hst hL C0 hE9 hb0 hk4 nx hT hH hPc hPm hPo hS hz hl)
      · exact lv_tableIn (tgt := 588) hx hb dL_law_39 (by decide) (by decide) (off := 549) (by decide) (by decide) (law_c588 hst hL C0 hE9 hb0 hk4 nx hT hH hPc hPm hPo hS hz hl)
      · exact lv_tableIn (tgt := 656) hx hb dL_law_39 (by decide) (by decide) (off := 617) (by decide) (by decide) (law_c656 hst hL C0 hE9 hb0 hk4 nx hT hH hPc hPm hPo hS hz hl)
      · exact lv_tableIn (tgt := 736) hx hb dL_law_39 (by decide) (by decide) (off := 697) (by decide) (by decide) (law_c736 hst hL C0 hE9 hb0 hk4 nx hT hH hPc hPm hPo hS hz hl)
      · exact lv_tableIn (tgt := 804) hx hb dL_law_39 (by decide) (by decide) (off := 765) (by decide) (by decide) (law_c804 hst hL C0 hE9 hb0 hk4 nx hT hH hPc hPm hPo hS hz hl)
      · exact lv_tableIn (tgt := 872) hx hb dL_law_39 (by decide) (by decide) (off := 833) (by decide) (by decide) (law_c872 hst hL C0 hE9 hb0 hk4 nx hT hH hPc hPm hPo hS hz hl)
      · exact lv_tableIn (tgt := 940) hx hb dL_law_39 (by decide) (by decide) (off := 901) (by decide) (by decide) (law_c940 hst hL C0 hE9 hb0 hk4 nx hT hH hPc hPm hPo hS hz hl)
      · exact lv_tableIn (tgt := 996) hx hb dL_law_39 (by decide) (by decide) (off := 957) (by decide) (by decide) (law_c996 hst hL C0 hE9 hb0 hk4 nx hT hH hPc hPm hPo hS hz hl)
      · exact lv_tableIn (tgt := 1052) hx hb dL_law_39 (by decide) (by decide) (off := 1013) (by decide) (by decide) (law_c1052 hst hL C0 hE9 hb0 hk4 nx hT hH hPc hPm hPo hS hz hl)
      · exact lv_tableIn (tgt := 1120) hx hb dL_law_39 (by decide) (by decide) (off := 1081) (by decide) (by decide) (law_c1120 hst hL C0 hE9 hb0 hk4 nx hT hH hPc hPm hPo hS hz hl)
      · exact lv_tableIn (tgt := 1200) hx hb dL_law_39 (by decide) (by decide) (off := 1161) (by decide) (by decide) (law_c1200 hst hL C0 hE9 hb0 hk4 nx hT hH hPc hPm hPo hS hz hl)
      · exact lv_tableIn (tgt := 1213) hx hb dL_law_39 (by decide) (by decide) (off := 1174) (by decide) (by decide) (law_c1213 hst hL C0 hE9 hb0 hk4 nx hT hH hPc hPm hPo hS hz hl)
      · exact lv_tableIn (tgt := 1269) hx hb dL_law_39 (by decide) (by decide) (off := 1230) (by decide) (by decide) (law_c1269 hst hL C0 hE9 hb0 hk4 nx hT hH hPc hPm hPo hS hz hl)
      · exact lv_tableIn (tgt := 1310) hx hb dL_law_39 (by decide) (by decide) (off := 1271) (by decide) (by decide) (law_c1310 hst hL C0 hE9 hb0 hk4 nx hT hH hPc hPm hPo hS hz hl)
      · refine lv_tableOut (tgt := 1324) hx hb dL_law_39 (Or.inr ?_) (by decide) (o_widen (k := 177 + 100 * (k + 1)) (n := 3360 + 1100 * (k + 1)) (by omega) (by omega) (nx _ _ _ _ _ _ _ _ _ _ _ _ hT (by omega) hPc hPm hPo hS hz ls hl))
        have h9 : (nI j).toInt = (j : Int) := Int32.toInt_ofNat_of_lt (by omega)
        rw [h9]; omega
set_option maxHeartbeats 16000000 in
set_option maxRecDepth 100000 in
theorem whole_start {p : Program} {e : Env} {s : State} {m : MethodId} {below : List Frame} {meth : Method} {c : Code} (l : Launch) (hflags : l.flags = flags0) {b L : Nat} {xs : Nat → Int32} (hL : L ≤ 2048) (C0 : lw_At p s m meth c b L xs) : W p l e room_1 s m #[Value.ref b] below meth c s.heap [] 0 0 (lw_Z below #[Value.ref b] s) (entryFrame m ([Value.ref b] : List Value).toArray 9) := by
  obtain ⟨hx, hb, hr, hml, hown, htb, hX, hbl, hlocks, hgv⟩ := id C0
  have hst : l.stackTraces = false := by unfold Launch.stackTraces; rw [hflags]; decide +kernel
  have hts : ∀ w ∈ wsL_law, w.before #[Value.ref b] s = true := fun w hw => htb w (wsL_law_in w hw)
  have hown : s.vm.findClass RL = some m.cls := hown
  obtain ⟨D, kl, a1, v1, a2, v2, a3, v3, a4, v4, a5, v5, t1, t2, hE9⟩ := lwE_of htb (env_flat hgv)
  obtain ⟨hA2, hA0⟩ := env_AO htb
  rw [lg_entry_eq]
  have hl := lv_entry ([.ref b]) (n := 9) (Nat.le_of_ble_eq_true rfl)
  generalize (lg_sl ([.ref b]) ++ List.replicate (9 - (lg_sl ([.ref b])).length) Slot.unset).toArray = ls at hl ⊢
  have hl : lv_has ls 9 [(0, .ref b)] := hl
  obtain ⟨b0, hb0⟩ : ∃ b0, b0 = s.heap.size := ⟨_, rfl⟩
  have hS : va_S (sFrom b0) s.heap s.heap [] := va_S.rf
  have hP : va_P D vwCl (qw b0 0 (o0 6 [.ref (b0 + 1), .ref (b0 + 68), .ref (b0 + 135)] (X4F (D, ga b0, kl) b0))) s.heap := fun k q h => by simp [qw, wl] at h
  refine k_newC (G := (D, ga b0, kl)) (a := b0) (N := 0) (ci := 6) (C := RX4) (T := TX4) (n := 3) (own := RL) hx hb htb in_wsX40 tyX4 tyX4_ok hown (htb (.classLink RL 8 RX4) (by decide +kernel)) (htb (.instantiable RX4 3) (by decide +kernel)) (htb (.initialized RX4) (by decide +kernel)) (hE9.K _) hP hb0.symm hS rfl (fs := [.null, .null, .null]) (by decide +kernel) (Nat.le_of_ble_eq_true rfl) (Nat.le_of_ble_eq_true rfl) dL_law_0 (fun H hP hPn hz hS => ?_)
  change W _ _ _ _ _ _ _ _ _ _ _ _ _ _ _ (F0 m 3 ls [.ref b0])
  refine lv_dup hx hb dL_law_3 rfl ?_
  refine k_call (G := (D, ga b0, kl)) (b := b0) (a := b0) (N := 0) [] [.ref b0] ⟨hx, hb, hml, hown, hts⟩ (m_X4_init l (D, ga b0, kl) b0) (cwI 0 hts gL_law_X4_init rfl rfl rfl (htb (.initialized RX4) (by decide +kernel)) (htb (.methodLink RL 67 yX4_init) (by decide +kernel)) (htb (.instanceMethod yX4_init) (by decide +kernel)) rfl (by decide +kernel) ⟨(Nat.le_of_ble_eq_true rfl), (Nat.le_of_ble_eq_true rfl)⟩) (hE9.K _) hE9.N hA2 hA0 hP hPn hz rfl rfl hS rfl hl.1 rfl (Nat.le_of_ble_eq_true rfl) dL_law_4 ⟨(Nat.le_of_ble_eq_true rfl), (Nat.le_of_ble_eq_true rfl)⟩ (fun H locs hPj hP hz9 hS => ?_)
  have hz : H.size = b0 + 137 := by have h9 := (hPj 136 _ (wl_at (by decide) rfl)).lt; simp only [ga] at h9; omega
  refine lv_astore_n (lv' := [(1, .ref (ga b0 0)), (0, .ref b)]) hx hb dL_law_7 rfl hl (by decide) rfl (fun ls hl => ?_)
  refine k_newC (G := (D, ga (b0 + 137), kl)) (a := b0) (N := 137) (ci := 8) (C := RX6) (T := TX6) (n := 6) (own := RL) hx hb htb in_wsX60 tyX6 tyX6_ok hown (htb (.classLink RL 68 RX6) (by decide +kernel)) (htb (.instantiable RX6 6) (by decide +kernel)) (htb (.initialized RX6) (by decide +kernel)) (hE9.K _) hPj hz hS rfl (fs := [.int 0, .null, .null, .int 0, .null, .null]) (by decide +kernel) (Nat.le_of_ble_eq_true rfl) (Nat.le_of_ble_eq_true rfl) dL_law_8 (fun H hP hPn hz hS => ?_)
  change W _ _ _ _ _ _ _ _ _ _ _ _ _ _ _ (F0 m 11 ls [.ref (b0 + 137)])
  refine lv_dup hx hb dL_law_11 rfl ?_
  refine k_call (G := (D, ga (b0 + 137), kl)) (b := b0 + 137) (a := b0) (N := 137) [] [.ref (b0 + 137)] ⟨hx, hb, hml, hown, hts⟩ (m_X6_init l (D, ga (b0 + 137), kl) (b0 + 137)) (cwI 0 hts gL_law_X6_init rfl rfl rfl (htb (.initialized RX6) (by decide +kernel)) (htb (.methodLink RL 70 yX6_init) (by decide +kernel)) (htb (.instanceMethod yX6_init) (by decide +kernel)) rfl (by decide +kernel) ⟨(Nat.le_of_ble_eq_true rfl), (Nat.le_of_ble_eq_true rfl)⟩) (hE9.K _) hE9.N hA2 hA0 hP hPn hz rfl rfl hS rfl hl.1 rfl (Nat.le_of_ble_eq_true rfl) dL_law_12 ⟨(Nat.le_of_ble_eq_true rfl), (Nat.le_of_ble_eq_true rfl)⟩ (fun H locs hPj hP hz9 hS => ?_)
  have hz : H.size = b0 + 176 := by have h9 := (hPj 38 _ (wl_at (by decide) rfl)).lt; simp only [ga] at h9; omega
  have hPc := mk_cw hP
  have hPm := mk_mw hPj
  refine lv_astore_n (lv' := [(2, .ref (ga (b0 + 137) 0)), (1, .ref (ga b0 0)), (0, .ref b)]) hx hb dL_law_15 rfl hl (by decide) rfl (fun ls hl => ?_)
  refine lv_iconst (v := 1) hx hb dL_law_16 (by decide) ?_
  refine o_newP (D := D) (cl := vwCl) (tys := oty (D, ga b0, kl)) (ws := []) (atype := .long) hx hb (htb (.arrayClass .long) (by decide +kernel)) rfl (hE9.K (ga b0)) (fun k q h => by simp at h) hS 5 rfl (a0 := (1, .inr (.inl (fun _ => 0)))) (N' := 1) (fun cA => rfl) (by decide) (by decide) (Nat.le_of_ble_eq_true rfl) (Nat.le_of_ble_eq_true rfl) (Nat.le_of_ble_eq_true rfl) dL_law_17 (fun H1 hPo hz1 hk1 hS => ?_)
  rw [hz] at hPo hz1 ⊢
  have hPc1 : va_P D vwCl (cw (D, ga b0, kl) (z3 oT0 oT0 mT0)) H1 := hPc.kept (fun k x hx9 => hk1 _ (hPc k x hx9).lt)
  have hPm1 : va_P D vwCl (mw (D, ga (b0 + 137), kl) (z3 mT0 mT0 mT0)) H1 := hPm.kept (fun k x hx9 => hk1 _ (hPm k x hx9).lt)
  have hPo1 : va_P D vwCl (lw1 (D, ga b0, kl) (b0 + 176) (fun _ => 0)) H1 := hPo
  refine lv_astore_n (lv' := [(3, .ref (b0 + 176)), (2, .ref (ga (b0 + 137) 0)), (1, .ref (ga b0 0)), (0, .ref b)]) hx hb dL_law_19 rfl hl (by decide) rfl (fun ls hl => ?_)
  refine lv_iconst (v := 0) hx hb dL_law_20 (by decide) ?_
  refine lv_istore (lv' := [(4, .int (nI (4 * 0))), (3, .ref (b0 + 176)), (2, .ref (ga (b0 + 137) 0)), (1, .ref (ga b0 0)), (0, .ref b)]) hx hb dL_law_21 hl (by decide) rfl (fun ls hl => ?_)
  refine o_widen (k := 177 + 100 * 0) (n := 3360 + 1100 * 0) (Nat.le_of_ble_eq_true rfl) (Nat.le_of_ble_eq_true rfl) ?_
  exact law_loop hst hL C0 hE9 hb0 (L + 1) 0 (by omega) (by omega) _ _ _ _ _ _ _ _ _ _ _ _ rT_0 (Nat.le_refl _) hPc1 hPm1 hPo1 hS (by omega) ls (lv_sub hl [4, 3, 2, 1, 0] rfl)
