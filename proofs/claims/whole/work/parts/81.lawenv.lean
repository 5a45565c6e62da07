/-! The law's environment, and what a call leaves as it was -/
theorem oEx.on {s U : State} {H : Heap} (h : oEx s) (hq : ∀ a : Nat, a < s.heap.size → H[a]? = s.heap[a]?) (hU : U.heap = H) (hW : s.WarmedH U.vm) : oEx U := by
  refine ⟨by rw [hU]; exact vx_Zq.moved hW.alike (h.1.kept (fun a ha _ => hq a ha)), by rw [hU]; exact vx_Zq.moved hW.alike (h.2.1.kept (fun a ha _ => hq a ha)), fun q hq => ?_, ?_⟩
  · obtain ⟨a, ha⟩ := h.2.2.1 q hq
    exact ⟨a, vk_R.warm hW ha⟩
  · intro w hw
    exact oXB_cases (P := fun w => va_Nw w s → va_Nw w U) (fun _ _ h => va_Nw.warmC hW h) (fun _ h => va_Nw.warmD hW h) w hw (h.2.2.2 w hw)
theorem lL_blind {av : List Value} {G : oG} {ws : va_W} {ao : Nat} {f : Nat → Int64} : FrameBlind (va_Pc av (PL G ws ao f)) := fun a U g mk q => by
  obtain ⟨q0, q1, q2, q3⟩ := q
  obtain ⟨-, q4⟩ := ox_blind (av := av) (G := G) (ws := ws) a U g mk ⟨q0, q1⟩
  exact ⟨q0, q4, q2, oNc.moved (u := U) (U := U.calling g mk a) (Vm.Alike.refl U.vm) q3⟩
theorem lL_pre {s : State} {H : Heap} {av : List Value} {G : oG} {ws : va_W} {ao : Nat} {f : Nat → Int64} (hP : va_P G.1 vwCl ws H) (hO : va_P G.1 vwCl (lw1 G ao f) H) (hK : va_K G.1 vwCl (oty G) s) (hN : oNst s) (hE : oEx s) (hC : oNc s) (hq : ∀ a : Nat, a < s.heap.size → H[a]? = s.heap[a]?) : ∀ U : State, U.heap = H → s.WarmedH U.vm → va_Pc av (PL G ws ao f) av.toArray U :=
  fun U hU hW => ⟨rfl, ⟨(o_pre (av := av) hP hK hN U hU hW).2, hE.on hq hU hW⟩, by rw [hU]; exact hO, hC.moved hW.alike⟩
def lF1 : Nat → Int32 := fun j => str1.getD j 0
def lF2 : Nat → Int32 := fun j => str2.getD j 0
def lF3 : Nat → Int32 := fun j => str3.getD j 0
/-- what the law's start gives, at hand -/
def lwE (D : va_G) (kl : Nat → ClassId) (s : State) (a1 v1 a2 v2 a3 v3 a4 v4 a5 v5 t1 t2 : Nat) : Prop := (∀ g, va_K D vwCl (oty (D, g, kl)) s) ∧ (oNst s) ∧ (oEx s) ∧ (oNc s) ∧ (oCS (sFrom s.heap.size) s s.heap) ∧ (oDT t1 t2 (sFrom s.heap.size) s s.heap) ∧ (vk_R RX4 146 "street organs coins" a1 s) ∧ (oSt a1 v1 19 lF1 (sFrom s.heap.size) s s.heap) ∧ (vk_R RX4 163 "organ coins tune" a2 s) ∧ (oSt a2 v2 16 lF2 (sFrom s.heap.size) s s.heap) ∧ (vk_R RX6 167 "street organs coins" a3 s) ∧ (oSt a3 v3 19 lF1 (sFrom s.heap.size) s s.heap) ∧ (vk_R RX6 189 "organ coins tune" a4 s) ∧ (oSt a4 v4 16 lF2 (sFrom s.heap.size) s s.heap) ∧ (vk_R RX6 180 " " a5 s) ∧ (oSt a5 v5 1 lF3 (sFrom s.heap.size) s s.heap)
theorem lwE.K {D : va_G} {kl : Nat → ClassId} {s : State} {a1 v1 a2 v2 a3 v3 a4 v4 a5 v5 t1 t2 : Nat} (h : lwE D kl s a1 v1 a2 v2 a3 v3 a4 v4 a5 v5 t1 t2) : ∀ g, va_K D vwCl (oty (D, g, kl)) s := h.1
theorem lwE.N {D : va_G} {kl : Nat → ClassId} {s : State} {a1 v1 a2 v2 a3 v3 a4 v4 a5 v5 t1 t2 : Nat} (h : lwE D kl s a1 v1 a2 v2 a3 v3 a4 v4 a5 v5 t1 t2) : oNst s := h.2.1
theorem lwE.E {D : va_G} {kl : Nat → ClassId} {s : State} {a1 v1 a2 v2 a3 v3 a4 v4 a5 v5 t1 t2 : Nat} (h : lwE D kl s a1 v1 a2 v2 a3 v3 a4 v4 a5 v5 t1 t2) : oEx s := h.2.2.1
theorem lwE.C {D : va_G} {kl : Nat → ClassId} {s : State} {a1 v1 a2 v2 a3 v3 a4 v4 a5 v5 t1 t2 : Nat} (h : lwE D kl s a1 v1 a2 v2 a3 v3 a4 v4 a5 v5 t1 t2) : oNc s := h.2.2.2.1
theorem lwE.Z {D : va_G} {kl : Nat → ClassId} {s : State} {a1 v1 a2 v2 a3 v3 a4 v4 a5 v5 t1 t2 : Nat} (h : lwE D kl s a1 v1 a2 v2 a3 v3 a4 v4 a5 v5 t1 t2) : oCS (sFrom s.heap.size) s s.heap := h.2.2.2.2.1
theorem lwE.T {D : va_G} {kl : Nat → ClassId} {s : State} {a1 v1 a2 v2 a3 v3 a4 v4 a5 v5 t1 t2 : Nat} (h : lwE D kl s a1 v1 a2 v2 a3 v3 a4 v4 a5 v5 t1 t2) : oDT t1 t2 (sFrom s.heap.size) s s.heap := h.2.2.2.2.2.1
theorem lwE.c1 {D : va_G} {kl : Nat → ClassId} {s : State} {a1 v1 a2 v2 a3 v3 a4 v4 a5 v5 t1 t2 : Nat} (h : lwE D kl s a1 v1 a2 v2 a3 v3 a4 v4 a5 v5 t1 t2) : vk_R RX4 146 "street organs coins" a1 s := h.2.2.2.2.2.2.1
theorem lwE.s1 {D : va_G} {kl : Nat → ClassId} {s : State} {a1 v1 a2 v2 a3 v3 a4 v4 a5 v5 t1 t2 : Nat} (h : lwE D kl s a1 v1 a2 v2 a3 v3 a4 v4 a5 v5 t1 t2) : oSt a1 v1 19 lF1 (sFrom s.heap.size) s s.heap := h.2.2.2.2.2.2.2.1
theorem lwE.c2 {D : va_G} {kl : Nat → ClassId} {s : State} {a1 v1 a2 v2 a3 v3 a4 v4 a5 v5 t1 t2 : Nat} (h : lwE D kl s a1 v1 a2 v2 a3 v3 a4 v4 a5 v5 t1 t2) : vk_R RX4 163 "organ coins tune" a2 s := h.2.2.2.2.2.2.2.2.1
theorem lwE.s2 {D : va_G} {kl : Nat → ClassId} {s : State} {a1 v1 a2 v2 a3 v3 a4 v4 a5 v5 t1 t2 : Nat} (h : lwE D kl s a1 v1 a2 v2 a3 v3 a4 v4 a5 v5 t1 t2) : oSt a2 v2 16 lF2 (sFrom s.heap.size) s s.heap := h.2.2.2.2.2.2.2.2.2.1
theorem lwE.c3 {D : va_G} {kl : Nat → ClassId} {s : State} {a1 v1 a2 v2 a3 v3 a4 v4 a5 v5 t1 t2 : Nat} (h : lwE D kl s a1 v1 a2 v2 a3 v3 a4 v4 a5 v5 t1 t2) : vk_R RX6 167 "street organs coins" a3 s := h.2.2.2.2.2.2.2.2.2.2.1
theorem lwE.s3 {D : va_G} {kl : Nat → ClassId} {s : State} {a1 v1 a2 v2 a3 v3 a4 v4 a5 v5 t1 t2 : Nat} (h : lwE D kl s a1 v1 a2 v2 a3 v3 a4 v4 a5 v5 t1 t2) : oSt a3 v3 19 lF1 (sFrom s.heap.size) s s.heap := h.2.2.2.2.2.2.2.2.2.2.2.1
theorem lwE.c4 {D : va_G} {kl : Nat → ClassId} {s : State} {a1 v1 a2 v2 a3 v3 a4 v4 a5 v5 t1 t2 : Nat} (h : lwE D kl s a1 v1 a2 v2 a3 v3 a4 v4 a5 v5 t1 t2) : vk_R RX6 189 "organ coins tune" a4 s := h.2.2.2.2.2.2.2.2.2.2.2.2.1
theorem lwE.s4 {D : va_G} {kl : Nat → ClassId} {s : State} {a1 v1 a2 v2 a3 v3 a4 v4 a5 v5 t1 t2 : Nat} (h : lwE D kl s a1 v1 a2 v2 a3 v3 a4 v4 a5 v5 t1 t2) : oSt a4 v4 16 lF2 (sFrom s.heap.size) s s.heap := h.2.2.2.2.2.2.2.2.2.2.2.2.2.1
theorem lwE.c5 {D : va_G} {kl : Nat → ClassId} {s : State} {a1 v1 a2 v2 a3 v3 a4 v4 a5 v5 t1 t2 : Nat} (h : lwE D kl s a1 v1 a2 v2 a3 v3 a4 v4 a5 v5 t1 t2) : vk_R RX6 180 " " a5 s := h.2.2.2.2.2.2.2.2.2.2.2.2.2.2.1
theorem lwE.s5 {D : va_G} {kl : Nat → ClassId} {s : State} {a1 v1 a2 v2 a3 v3 a4 v4 a5 v5 t1 t2 : Nat} (h : lwE D kl s a1 v1 a2 v2 a3 v3 a4 v4 a5 v5 t1 t2) : oSt a5 v5 1 lF3 (sFrom s.heap.size) s s.heap := h.2.2.2.2.2.2.2.2.2.2.2.2.2.2.2
theorem lwE_of {s : State} {args : Array Value} (hts : ∀ w ∈ lw_tbl, w.before args s = true) (hf : ∀ w ∈ lwF, w.before args s = true) : ∃ D kl a1 v1 a2 v2 a3 v3 a4 v4 a5 v5 t1 t2, lwE D kl s a1 v1 a2 v2 a3 v3 a4 v4 a5 v5 t1 t2 := by
  have hA : ∀ a : Nat, a < s.heap.size → ¬ sFrom s.heap.size a := fun a h q => by simp only [sFrom] at q; omega
  obtain ⟨D, kl, hK⟩ := env_K hts
  obtain ⟨a1, v1, c1, s1⟩ := env_c1 hts hf hA
  obtain ⟨a2, v2, c2, s2⟩ := env_c2 hts hf hA
  obtain ⟨a3, v3, c3, s3⟩ := env_m1 hts hf hA
  obtain ⟨a4, v4, c4, s4⟩ := env_m2 hts hf hA
  obtain ⟨a5, v5, c5, s5⟩ := env_m3 hts hf hA
  obtain ⟨t1, t2, hT⟩ := env_DT hts hf hA
  exact ⟨D, kl, a1, v1, a2, v2, a3, v3, a4, v4, a5, v5, t1, t2, hK, env_N hts, env_Ex hts hf, env_Nc hf, env_CS hts hf hA, hT, c1, s1, c2, s2, c3, s3, c4, s4, c5, s5⟩
theorem lC_blind {av : List Value} {G : oG} {ws : va_W} {a1 v1 a2 v2 : Nat} {f1 f2 : Nat → Int32} : FrameBlind (va_Pc av (fun U => PW G ws U ∧ oCen G a1 v1 f1 a2 v2 f2 U)) := fun a U g mk q => by
  obtain ⟨q0, q1, e1, e2, e3, e4, e5⟩ := q
  obtain ⟨-, q4⟩ := o_blind (av := av) (G := G) (ws := ws) a U g mk ⟨q0, q1⟩
  have hr : U.vm.Alike U.vm := Vm.Alike.refl U.vm
  exact ⟨q0, q4, oSt.moved (u := U) (U := U.calling g mk a) hr e1, oSt.moved (u := U) (U := U.calling g mk a) hr e2, oCS.moved (u := U) (U := U.calling g mk a) hr e3, vk_R.same (u := U) (U := U.calling g mk a) rfl e4, vk_R.same (u := U) (U := U.calling g mk a) rfl e5⟩
theorem lM_blind {av : List Value} {G : oG} {ws : va_W} {sz a1 v1 a2 v2 a9 w9 t1 t2 : Nat} {f1 f2 t : Nat → Int32} : FrameBlind (va_Pc av (fun U => PW G ws U ∧ oCM G sz a1 v1 f1 a2 v2 f2 a9 w9 t t1 t2 U)) := fun a U g mk q => by
  obtain ⟨q0, q1, e1, e2, e3, e4, e5, e6, e7⟩ := q
  obtain ⟨-, q4⟩ := o_blind (av := av) (G := G) (ws := ws) a U g mk ⟨q0, q1⟩
  have hr : U.vm.Alike U.vm := Vm.Alike.refl U.vm
  exact ⟨q0, q4, oBE.moved (u := U) (U := U.calling g mk a) hr e1, oSt.moved (u := U) (U := U.calling g mk a) hr e2, oSt.moved (u := U) (U := U.calling g mk a) hr e3, vk_R.same (u := U) (U := U.calling g mk a) rfl e4, vk_R.same (u := U) (U := U.calling g mk a) rfl e5, vk_R.same (u := U) (U := U.calling g mk a) rfl e6, e7⟩
section LENV
variable {D : va_G} {kl : Nat → ClassId} {s : State} {a1 v1 a2 v2 a3 v3 a4 v4 a5 v5 t1 t2 : Nat} {H : Heap} {av : List Value} {ws : va_W} {b0 : Nat}
theorem lC_pre (h : lwE D kl s a1 v1 a2 v2 a3 v3 a4 v4 a5 v5 t1 t2) (hb : b0 = s.heap.size) (hP : va_P D vwCl ws H) (hq : ∀ a : Nat, a < s.heap.size → H[a]? = s.heap[a]?) : ∀ U : State, U.heap = H → s.WarmedH U.vm → va_Pc av (fun U => PW (D, ga b0, kl) ws U ∧ oCen (D, ga b0, kl) a1 v1 lF1 a2 v2 lF2 U) av.toArray U := by
  intro U hU hW
  subst hb
  have hk : ∀ a : Nat, a < s.heap.size → ¬ sFrom s.heap.size a → H[a]? = s.heap[a]? := fun a ha _ => hq a ha
  have hn : ∀ q, oA (D, ga s.heap.size, kl) q → sFrom s.heap.size q := fun q hq => by
    obtain ⟨k, _, rfl⟩ := hq
    simp only [sFrom, ga]; omega
  exact ⟨rfl, (o_pre (G := (D, ga s.heap.size, kl)) (av := av) hP (h.K _) h.N U hU hW).2, by rw [hU]; exact ((h.s1.kept hk).narrow hn).moved hW.alike, by rw [hU]; exact ((h.s2.kept hk).narrow hn).moved hW.alike, by rw [hU]; exact ((h.Z.kept hk).narrow hn).moved hW.alike, vk_R.warm hW h.c1, vk_R.warm hW h.c2⟩
theorem lM_pre (h : lwE D kl s a1 v1 a2 v2 a3 v3 a4 v4 a5 v5 t1 t2) (hb : b0 = s.heap.size) (hP : va_P D vwCl ws H) {sz : Nat} (hs : sz = H.size) (hz : s.heap.size ≤ H.size) (hq : ∀ a : Nat, a < s.heap.size → H[a]? = s.heap[a]?) : ∀ U : State, U.heap = H → s.WarmedH U.vm → va_Pc av (fun U => PW (D, ga (b0 + 137), kl) ws U ∧ oCM (D, ga (b0 + 137), kl) sz a3 v3 lF1 a4 v4 lF2 a5 v5 lF3 t1 t2 U) av.toArray U := by
  intro U hU hW
  subst hb
  subst hs
  have hk : ∀ a : Nat, a < s.heap.size → ¬ sFrom s.heap.size a → H[a]? = s.heap[a]? := fun a ha _ => hq a ha
  have hn : ∀ q, mN (D, ga (s.heap.size + 137), kl) H.size q → sFrom s.heap.size q := fun q hq => by
    rcases hq with hq | hq
    · obtain ⟨k, _, rfl⟩ := hq
      simp only [sFrom, ga]; omega
    · simp only [sFrom]; omega
  exact ⟨rfl, (o_pre (G := (D, ga (s.heap.size + 137), kl)) (av := av) hP (h.K _) h.N U hU hW).2, by rw [hU]; exact ⟨((h.Z.kept hk).narrow hn).moved hW.alike, ((h.T.kept hk).narrow hn).moved hW.alike, ((h.s5.kept hk).narrow hn).moved hW.alike⟩, by rw [hU]; exact ((h.s3.kept hk).narrow hn).moved hW.alike, by rw [hU]; exact ((h.s4.kept hk).narrow hn).moved hW.alike, vk_R.warm hW h.c3, vk_R.warm hW h.c4, vk_R.warm hW h.c5, by rw [hU]; exact Nat.le_refl _⟩
/-! apart -/
theorem kp_w {g : Nat → Nat} {N : Nat} {f : Nat → va_E} {H H1 : Heap} {A : Nat → Prop} (h : va_P D vwCl (wl g N f) H) (hk : ∀ q : Nat, q < H.size → ¬ A q → H1[q]? = H[q]?) (hn : ∀ k, k < N → ¬ A (g k)) : va_P D vwCl (wl g N f) H1 :=
  wl_kept h (fun k hk9 => hk _ (wl_lt h hk9) (hn k hk9))
theorem kp_m {Z : oZ} {H1 : Heap} (h : va_P D vwCl (mw (D, ga (b0 + 137), kl) Z) H) (hk : ∀ q : Nat, q < H.size → ¬ oL (D, ga b0, kl) (b0 + 176) q → H1[q]? = H[q]?) : va_P D vwCl (mw (D, ga (b0 + 137), kl) Z) H1 :=
  kp_w h hk (fun k hk9 q => by
    rcases q with ⟨j, hj, e⟩ | e
    · simp only [ga] at e; omega
    · simp only [ga] at e; omega)
theorem kp_m2 {Z : oZ} {H1 : Heap} (h : va_P D vwCl (mw (D, ga (b0 + 137), kl) Z) H) (hk : ∀ q : Nat, q < H.size → ¬ oA (D, ga b0, kl) q → H1[q]? = H[q]?) : va_P D vwCl (mw (D, ga (b0 + 137), kl) Z) H1 :=
  kp_w h hk (fun k hk9 q => by
    obtain ⟨j, hj, e⟩ := q
    simp only [ga] at e; omega)
theorem kp_o2 {f : Nat → Int64} {H1 : Heap} (h : va_P D vwCl (lw1 (D, ga b0, kl) (b0 + 176) f) H) (hk : ∀ q : Nat, q < H.size → ¬ oA (D, ga b0, kl) q → H1[q]? = H[q]?) : va_P D vwCl (lw1 (D, ga b0, kl) (b0 + 176) f) H1 :=
  ol_keep (G := (D, ga b0, kl)) h (fun q => by obtain ⟨j, hj, e⟩ := q; simp only [ga] at e; omega) hk
theorem kp_c {Z : oZ} {H1 : Heap} {sz : Nat} (hs : b0 + 177 ≤ sz) (h : va_P D vwCl (cw (D, ga b0, kl) Z) H) (hk : ∀ q : Nat, q < H.size → ¬ mN (D, ga (b0 + 137), kl) sz q → H1[q]? = H[q]?) : va_P D vwCl (cw (D, ga b0, kl) Z) H1 :=
  kp_w h hk (fun k hk9 q => by
    rcases q with ⟨j, hj, e⟩ | e
    · simp only [ga] at e; omega
    · simp only [ga] at e; omega)
theorem kp_o {f : Nat → Int64} {H1 : Heap} {sz : Nat} (hs : b0 + 177 ≤ sz) (h : va_P D vwCl (lw1 (D, ga b0, kl) (b0 + 176) f) H) (hk : ∀ q : Nat, q < H.size → ¬ mN (D, ga (b0 + 137), kl) sz q → H1[q]? = H[q]?) : va_P D vwCl (lw1 (D, ga b0, kl) (b0 + 176) f) H1 :=
  ol_keep (G := (D, ga b0, kl)) h (fun q => by
    rcases q with ⟨j, hj, e⟩ | e
    · simp only [ga] at e; omega
    · omega) hk
theorem kp_AN {H1 : Heap} {sz : Nat} (hk : ∀ q : Nat, q < H.size → ¬ mA (D, ga (b0 + 137), kl) q → H1[q]? = H[q]?) : ∀ q : Nat, q < H.size → ¬ mN (D, ga (b0 + 137), kl) sz q → H1[q]? = H[q]? := fun q h1 h2 => hk q h1 (fun h => h2 (Or.inl h))
theorem sub_L : ∀ q, oL (D, ga b0, kl) (b0 + 176) q → sFrom b0 q := fun q h => by
  rcases h with ⟨j, hj, e⟩ | e
  · simp only [ga, sFrom] at e ⊢; omega
  · simp only [sFrom]; omega
theorem sub_A : ∀ q, oA (D, ga b0, kl) q → sFrom b0 q := fun q h => by
  obtain ⟨j, hj, e⟩ := h
  simp only [ga, sFrom] at e ⊢; omega
theorem sub_M : ∀ q, mA (D, ga (b0 + 137), kl) q → sFrom b0 q := fun q h => by
  obtain ⟨j, hj, e⟩ := h
  simp only [ga, sFrom] at e ⊢; omega
theorem sub_N {sz : Nat} (hs : b0 ≤ sz) : ∀ q, mN (D, ga (b0 + 137), kl) sz q → sFrom b0 q := fun q h => by
  rcases h with h | h
  · exact sub_M q h
  · simp only [sFrom]; omega
theorem nao : ¬ oA (D, ga b0, kl) (b0 + 176) := fun q => by
  obtain ⟨j, hj, e⟩ := q
  simp only [ga] at e; omega
end LENV
