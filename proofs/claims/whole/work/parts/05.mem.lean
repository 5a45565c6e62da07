/-! The memory of the class and of the reference: cells by number, at addresses g; what they hold, by kind, object and place. -/
abbrev oT : Type := Nat → Nat → Nat → Int32
/-- one number written: kind k, object i, place j -/
def su (σ : oT) (k i j : Nat) (x : Int32) : oT := fun a => if a = k then (fun b => if b = i then (fun c => if c = j then x else σ k i c) else σ k b) else σ a
theorem su_s (σ : oT) (k i j : Nat) (x : Int32) : su σ k i j x k i j = x := by simp [su]
theorem su_k (σ : oT) {k a : Nat} (i j : Nat) (x : Int32) (h : a ≠ k) : su σ k i j x a = σ a := by simp [su, h]
theorem su_i (σ : oT) (k : Nat) {i b : Nat} (j : Nat) (x : Int32) (h : b ≠ i) : su σ k i j x k b = σ k b := by simp [su, h]
theorem su_j (σ : oT) (k i : Nat) {j c : Nat} (x : Int32) (h : c ≠ j) : su σ k i j x k i c = σ k i c := by simp [su, h]
theorem su_at (σ : oT) (k i j : Nat) (x : Int32) (b c : Nat) : su σ k i j x k b c = if b = i ∧ c = j then x else σ k b c := by
  by_cases hb : b = i
  · subst hb
    by_cases hc : c = j <;> simp [su, hc]
  · simp [su, hb]
theorem su_row (σ : oT) (k i j : Nat) (x : Int32) : su σ k i j x k i = upd (σ k i) j x := by
  funext c
  simp [su, upd]
/-- a whole row written -/
def sw (τ : oT) (k i : Nat) (h : Nat → Int32) : oT := fun a => if a = k then (fun b => if b = i then h else τ k b) else τ a
theorem sw_s (τ : oT) (k i : Nat) (h : Nat → Int32) : sw τ k i h k i = h := by simp [sw]
theorem sw_k (τ : oT) {k a : Nat} (i : Nat) (h : Nat → Int32) (n : a ≠ k) : sw τ k i h a = τ a := by simp [sw, n]
theorem sw_i (τ : oT) (k : Nat) {i b : Nat} (h : Nat → Int32) (n : b ≠ i) : sw τ k i h k b = τ k b := by simp [sw, n]
theorem su_sw (τ : oT) (k i j : Nat) (x : Int32) : su τ k i j x = sw τ k i (upd (τ k i) j x) := by
  funext a b c
  by_cases ha : a = k
  · subst ha
    by_cases hb : b = i
    · subst hb; simp [su, sw, upd]
    · simp [su, sw, hb]
  · simp [su, sw, ha]
/-- the world of a region: its cells by number -/
def wl (g : Nat → Nat) (N : Nat) (f : Nat → va_E) : va_W := (List.range N).map (fun k => (g k, f k))
theorem wl_at {g : Nat → Nat} {N : Nat} {f : Nat → va_E} {k : Nat} {e : va_E} (hk : k < N) (he : f k = e) : (wl g N f)[k]? = some (g k, e) := by
  subst he
  simp [wl, hk]
theorem wl_get {g : Nat → Nat} {N : Nat} {f : Nat → va_E} {k : Nat} {q : Nat × va_E} (h : (wl g N f)[k]? = some q) : k < N ∧ q = (g k, f k) := by
  have hk : k < N := by
    have := (List.getElem?_eq_some_iff.mp h).1
    simpa [wl] using this
  rw [wl_at hk rfl] at h
  exact ⟨hk, (Option.some.inj h).symm⟩
theorem wl_len (g : Nat → Nat) (N : Nat) (f : Nat → va_E) : (wl g N f).length = N := by simp [wl]
theorem wl_congr {g : Nat → Nat} {N : Nat} {f f' : Nat → va_E} (h : ∀ k, k < N → f k = f' k) : wl g N f = wl g N f' := by
  refine List.map_congr_left fun k hk => ?_
  rw [h k (List.mem_range.mp hk)]
theorem wl_set {g : Nat → Nat} {N : Nat} {f f' : Nat → va_E} {k : Nat} {e : va_E} (h : ∀ j, j < N → f' j = if j = k then e else f j) : (wl g N f).set k (g k, e) = wl g N f' := by
  refine List.ext_getElem? fun j => ?_
  by_cases hj : j < N
  · rw [wl_at hj (h j hj)]
    by_cases hjk : j = k
    · subst hjk
      rw [List.getElem?_set_self (by rw [wl_len]; exact hj)]
      simp
    · rw [List.getElem?_set_ne (Ne.symm hjk), wl_at hj rfl, if_neg hjk]
  · rw [List.getElem?_eq_none (by rw [List.length_set, wl_len]; omega), List.getElem?_eq_none (by rw [wl_len]; omega)]
def wl_I (g : Nat → Nat) (N : Nat) : Prop := ∀ i j, i < N → j < N → g i = g j → i = j
/-- the region's own cells -/
def wl_A (g : Nat → Nat) (N : Nat) : Nat → Prop := fun q => ∃ k, k < N ∧ q = g k
theorem wl_D {A : Nat → Prop} {g : Nat → Nat} {N : Nat} {f : Nat → va_E} (hI : wl_I g N) (hA : ∀ k, k < N → A (g k)) : va_D A (wl g N f) := by
  refine ⟨fun i j p q hi hj h => ?_, fun k q hk => ?_⟩
  · obtain ⟨h1, rfl⟩ := wl_get hi
    obtain ⟨h2, rfl⟩ := wl_get hj
    exact hI i j h1 h2 h
  · obtain ⟨h1, rfl⟩ := wl_get hk
    exact hA k h1
theorem wl_DA {g : Nat → Nat} {N : Nat} {f : Nat → va_E} (hI : wl_I g N) : va_D (wl_A g N) (wl g N f) := wl_D hI (fun k hk => ⟨k, hk, rfl⟩)
theorem wl_kept {D : va_G} {cl : List vw_C} {g : Nat → Nat} {N : Nat} {f : Nat → va_E} {H H1 : Heap} (h : va_P D cl (wl g N f) H) (hq : ∀ k, k < N → H1[g k]? = H[g k]?) : va_P D cl (wl g N f) H1 :=
  h.kept (fun k q hk => by obtain ⟨h1, rfl⟩ := wl_get hk; exact hq k h1)
theorem wl_lt {D : va_G} {cl : List vw_C} {g : Nat → Nat} {N : Nat} {f : Nat → va_E} {H : Heap} (h : va_P D cl (wl g N f) H) {k : Nat} (hk : k < N) : g k < H.size := (h k _ (wl_at hk rfl)).lt
/-- several memories side by side: 0, 1 the towns (or states), 2 what is beside them -/
abbrev oZ : Type := Nat → oT
def setT (Z : oZ) (t : Nat) (τ : oT) : oZ := fun q => if q = t then τ else Z q
theorem setT_s (Z : oZ) (t : Nat) (τ : oT) : setT Z t τ t = τ := if_pos rfl
theorem setT_n (Z : oZ) {t q : Nat} (τ : oT) (h : q ≠ t) : setT Z t τ q = Z q := if_neg h
theorem setT_self (Z : oZ) (t : Nat) : setT Z t (Z t) = Z := by
  funext q
  by_cases h : q = t
  · subst h; exact setT_s _ _ _
  · exact setT_n _ _ h
theorem setT_t (Z : oZ) (t : Nat) (τ τ' : oT) : setT (setT Z t τ) t τ' = setT Z t τ' := by
  funext q
  by_cases h : q = t
  · subst h; rw [setT_s, setT_s]
  · rw [setT_n _ _ h, setT_n _ _ h, setT_n _ _ h]
/-- D, the addresses, the array classes (0 int, 1 Street, 2 Organ, 3 byte, 4 boolean) -/
abbrev oG : Type := va_G × (Nat → Nat) × (Nat → ClassId)
abbrev oty (G : oG) : List (ClassId × FieldType) := [(G.2.2 0, .int), (G.2.2 1, .object RX2), (G.2.2 2, .object RX0), (G.2.2 3, .byte), (G.2.2 4, .boolean), (G.2.2 5, .long)]
/-- the address of a town's cell -/
def ta (G : oG) (t k : Nat) : Nat := G.2.1 (1 + 67 * t + k)
/-! ### a town -/
def tS (G : oG) (t : Nat) (τ : oT) (s j : Nat) : va_E := match j with
  | 0 => .inr (4, [.ref (ta G t (4 + 4 * s)), .ref (ta G t (5 + 4 * s)), .ref (ta G t (6 + 4 * s)), .int (τ 3 s 0), .int (τ 4 s 0), .int (τ 5 s 0)])
  | 1 => .inl (G.2.2 0, 24, .inl (τ 0 s))
  | 2 => .inl (G.2.2 0, 6, .inl (τ 1 s))
  | _ => .inl (G.2.2 0, 6, .inl (τ 2 s))
def tO (G : oG) (t : Nat) (τ : oT) (i j : Nat) : va_E := match j with
  | 0 => .inr (2, [.ref (ta G t (28 + 5 * i)), .ref (ta G t (29 + 5 * i)), .ref (ta G t (30 + 5 * i)), .ref (ta G t (31 + 5 * i)), .int (τ 10 i 0), .int (τ 11 i 0), .int (τ 12 i 0), .int (τ 13 i 0), .int (τ 14 i 0), .int (τ 15 i 0), .int (τ 16 i 0), .int (τ 17 i 0)])
  | 1 => .inl (G.2.2 0, 8, .inl (τ 6 i))
  | 2 => .inl (G.2.2 0, 6, .inl (τ 7 i))
  | 3 => .inl (G.2.2 0, 6, .inl (τ 8 i))
  | _ => .inl (G.2.2 0, 6, .inl (τ 9 i))
def tH (G : oG) (t : Nat) (τ : oT) (j : Nat) : va_E := match j with
  | 0 => .inr (5, [.ref (ta G t (1)), .ref (ta G t (2)), .int (τ 18 0 0), .int (τ 18 0 1), .int (τ 18 0 2)])
  | 1 => .inl (G.2.2 1, 6, .inr (.inr (.inr (.inr (fun j => some (ta G t (3 + 4 * j)))))))
  | _ => .inl (G.2.2 2, 8, .inr (.inr (.inr (.inr (fun j => some (ta G t (27 + 5 * j)))))))
def tc (G : oG) (t : Nat) (τ : oT) (k : Nat) : va_E := if k < 3 then tH G t τ k else if k < 27 then tS G t τ ((k - 3) / 4) ((k - 3) % 4) else tO G t τ ((k - 27) / 5) ((k - 27) % 5)
theorem tc_H (G : oG) (t : Nat) (τ : oT) {k : Nat} (h : k < 3) : tc G t τ k = tH G t τ k := if_pos h
theorem tc_S (G : oG) (t : Nat) (τ : oT) {s j : Nat} (h : s < 6) (hj : j < 4) : tc G t τ (3 + 4 * s + j) = tS G t τ s j := by
  rw [tc, if_neg (by omega), if_pos (by omega), show (3 + 4 * s + j - 3) / 4 = s by omega, show (3 + 4 * s + j - 3) % 4 = j by omega]
theorem tc_O (G : oG) (t : Nat) (τ : oT) {i j : Nat} (hj : j < 5) : tc G t τ (27 + 5 * i + j) = tO G t τ i j := by
  rw [tc, if_neg (by omega), if_neg (by omega), show (27 + 5 * i + j - 27) / 5 = i by omega, show (27 + 5 * i + j - 27) % 5 = j by omega]
/-- every cell of a town is one of these -/
theorem tc_cases {P : Nat → Prop} (hH : ∀ k, k < 3 → P k) (hS : ∀ s j, s < 6 → j < 4 → P (3 + 4 * s + j)) (hO : ∀ i j, i < 8 → j < 5 → P (27 + 5 * i + j)) : ∀ k, k < 67 → P k := by
  intro k hk
  by_cases h1 : k < 3
  · exact hH k h1
  · by_cases h2 : k < 27
    · have := hS ((k - 3) / 4) ((k - 3) % 4) (by omega) (by omega)
      rwa [show 3 + 4 * ((k - 3) / 4) + (k - 3) % 4 = k by omega] at this
    · have := hO ((k - 27) / 5) ((k - 27) % 5) (by omega) (by omega)
      rwa [show 27 + 5 * ((k - 27) / 5) + (k - 27) % 5 = k by omega] at this
/-! ### the class's world: the object, two towns, the paper -/
def cc (G : oG) (Z : oZ) (k : Nat) : va_E := if k = 0 then .inr (6, [.ref (ta G 0 0), .ref (ta G 1 0), .ref (G.2.1 135)]) else if k < 68 then tc G 0 (Z 0) (k - 1) else if k < 135 then tc G 1 (Z 1) (k - 68) else if k = 135 then .inr (3, [.ref (G.2.1 136), .int (Z 2 0 0 0)]) else .inl (G.2.2 3, 320, .inl (Z 2 1 0))
def cw (G : oG) (Z : oZ) : va_W := wl G.2.1 137 (cc G Z)
/-- the world with the memory τ in the town t -/
def tw (G : oG) (Z : oZ) (t : Nat) (τ : oT) : va_W := cw G (setT Z t τ)
theorem cc_T (G : oG) (Z : oZ) {t k : Nat} (ht : t < 2) (hk : k < 67) : cc G Z (1 + 67 * t + k) = tc G t (Z t) k := by
  rcases (show t = 0 ∨ t = 1 by omega) with rfl | rfl
  · rw [cc, if_neg (by omega), if_pos (by omega), show 1 + 67 * 0 + k - 1 = k by omega]
  · rw [cc, if_neg (by omega), if_neg (by omega), if_pos (by omega), show 1 + 67 * 1 + k - 68 = k by omega]
theorem cc_cases {P : Nat → Prop} (h0 : P 0) (hT : ∀ t k, t < 2 → k < 67 → P (1 + 67 * t + k)) (hp : P 135) (hb : P 136) : ∀ k, k < 137 → P k := by
  intro k hk
  by_cases h1 : k = 0
  · subst h1; exact h0
  · by_cases h2 : k < 68
    · have := hT 0 (k - 1) (by omega) (by omega)
      rwa [show 1 + 67 * 0 + (k - 1) = k by omega] at this
    · by_cases h3 : k < 135
      · have := hT 1 (k - 68) (by omega) (by omega)
        rwa [show 1 + 67 * 1 + (k - 68) = k by omega] at this
      · rcases (show k = 135 ∨ k = 136 by omega) with rfl | rfl
        · exact hp
        · exact hb
theorem cw_at {G : oG} {Z : oZ} {t k : Nat} {e : va_E} (ht : t < 2) (hk : k < 67) (he : tc G t (Z t) k = e) : (cw G Z)[1 + 67 * t + k]? = some (ta G t k, e) := wl_at (by omega) ((cc_T G Z ht hk).trans he)
theorem tw_at {G : oG} {Z : oZ} {t k : Nat} {τ : oT} {e : va_E} (ht : t < 2) (hk : k < 67) (he : tc G t τ k = e) : (tw G Z t τ)[1 + 67 * t + k]? = some (ta G t k, e) := cw_at ht hk (by rw [setT_s]; exact he)
theorem cw_set {G : oG} {Z : oZ} {t a : Nat} {τ' : oT} {e : va_E} (ht : t < 2) (ha : a < 67) (h : ∀ k, k < 67 → tc G t τ' k = if k = a then e else tc G t (Z t) k) : (cw G Z).set (1 + 67 * t + a) (ta G t a, e) = cw G (setT Z t τ') := by
  refine wl_set (cc_cases ?_ (fun q k hq hk => ?_) ?_ ?_)
  · rw [if_neg (by omega)]; rfl
  · rw [cc_T _ _ hq hk, cc_T _ _ hq hk]
    by_cases hqt : q = t
    · subst hqt
      rw [setT_s, h k hk]
      by_cases hka : k = a
      · rw [if_pos hka, if_pos (by omega)]
      · rw [if_neg hka, if_neg (by omega)]
    · rw [setT_n _ _ hqt, if_neg (by omega)]
  · rw [if_neg (by omega)]; unfold cc; rw [setT_n _ _ (show 2 ≠ t by omega)]; rfl
  · rw [if_neg (by omega)]; unfold cc; rw [setT_n _ _ (show 2 ≠ t by omega)]; rfl
theorem tw_set {G : oG} {Z : oZ} {t a : Nat} {τ τ' : oT} {e : va_E} (ht : t < 2) (ha : a < 67) (h : ∀ k, k < 67 → tc G t τ' k = if k = a then e else tc G t τ k) : (tw G Z t τ).set (1 + 67 * t + a) (ta G t a, e) = tw G Z t τ' := by
  unfold tw
  rw [cw_set ht ha (τ' := τ') (by rw [setT_s]; exact h), setT_t]
theorem tS_ne (G : oG) (t : Nat) (τ : oT) (k i : Nat) (x : Nat → Int32) {s a : Nat} (h : s ≠ i) (hk : k < 6) : tS G t (sw τ k i x) s a = tS G t τ s a := by
  have e : ∀ b, b < 6 → sw τ k i x b s = τ b s := fun b hb => by
    by_cases hbk : b = k
    · subst hbk; exact sw_i τ b x h
    · rw [sw_k τ i x hbk]
  match a with
  | 0 => simp [tS, e]
  | 1 => simp [tS, e]
  | 2 => simp [tS, e]
  | (n + 3) => simp [tS, e]
theorem tO_ne (G : oG) (t : Nat) (τ : oT) (k i : Nat) (x : Nat → Int32) {s a : Nat} (h : s ≠ i) (hk : k < 18) : tO G t (sw τ k i x) s a = tO G t τ s a := by
  have e : ∀ b, sw τ k i x b s = τ b s := fun b => by
    by_cases hbk : b = k
    · subst hbk; exact sw_i τ b x h
    · rw [sw_k τ i x hbk]
  match a with
  | 0 => simp [tO, e]
  | 1 => simp [tO, e]
  | 2 => simp [tO, e]
  | 3 => simp [tO, e]
  | (n + 4) => simp [tO, e]
theorem tS_k (G : oG) (t : Nat) (τ : oT) (k i : Nat) (x : Nat → Int32) (s a : Nat) (hk : 6 ≤ k) : tS G t (sw τ k i x) s a = tS G t τ s a := by
  have e : ∀ b, b < 6 → sw τ k i x b = τ b := fun b hb => sw_k τ i x (by omega)
  match a with
  | 0 => simp [tS, e]
  | 1 => simp [tS, e]
  | 2 => simp [tS, e]
  | (n + 3) => simp [tS, e]
theorem tO_k (G : oG) (t : Nat) (τ : oT) (k i : Nat) (x : Nat → Int32) (s a : Nat) (hk : k < 6 ∨ 18 ≤ k) : tO G t (sw τ k i x) s a = tO G t τ s a := by
  have e : ∀ b, 6 ≤ b → b < 18 → sw τ k i x b = τ b := fun b hb hb2 => sw_k τ i x (by omega)
  match a with
  | 0 => simp [tO, e]
  | 1 => simp [tO, e]
  | 2 => simp [tO, e]
  | 3 => simp [tO, e]
  | (n + 4) => simp [tO, e]
theorem tH_k (G : oG) (t : Nat) (τ : oT) (k i : Nat) (x : Nat → Int32) (a : Nat) (hk : k < 18) : tH G t (sw τ k i x) a = tH G t τ a := by
  have e : sw τ k i x 18 = τ 18 := sw_k τ i x (by omega)
  match a with
  | 0 => simp [tH, e]
  | 1 => simp [tH]
  | (n + 2) => simp [tH]
/-- a write into a street's cell -/
theorem tc_setS {G : oG} {t : Nat} {τ τ' : oT} {k s a : Nat} {x : Nat → Int32} {e : va_E} (hτ : τ' = sw τ k s x) (hs : s < 6) (hk : k < 6) (ha : a < 4) (he : tS G t τ' s a = e) (ho : ∀ b, b < 4 → b ≠ a → tS G t τ' s b = tS G t τ s b) : ∀ q, q < 67 → tc G t τ' q = if q = 3 + 4 * s + a then e else tc G t τ q := by
  subst hτ
  refine tc_cases (fun q hq => ?_) (fun r b hr hb => ?_) (fun i b hi hb => ?_)
  · rw [if_neg (by omega), tc_H _ _ _ hq, tc_H _ _ _ hq, tH_k _ _ _ _ _ _ _ (by omega)]
  · rw [tc_S _ _ _ hr hb, tc_S _ _ _ hr hb]
    by_cases h1 : r = s
    · subst h1
      by_cases h2 : b = a
      · subst h2
        rw [if_pos rfl, he]
      · rw [if_neg (by omega), ho b hb h2]
    · rw [if_neg (by omega), tS_ne _ _ _ _ _ _ h1 hk]
  · rw [if_neg (by omega), tc_O _ _ _ hb, tc_O _ _ _ hb, tO_k _ _ _ _ _ _ _ _ (Or.inl hk)]
theorem tc_setO {G : oG} {t : Nat} {τ τ' : oT} {k i a : Nat} {x : Nat → Int32} {e : va_E} (hτ : τ' = sw τ k i x) (hi : i < 8) (h6 : 6 ≤ k) (hk : k < 18) (ha : a < 5) (he : tO G t τ' i a = e) (ho : ∀ b, b < 5 → b ≠ a → tO G t τ' i b = tO G t τ i b) : ∀ q, q < 67 → tc G t τ' q = if q = 27 + 5 * i + a then e else tc G t τ q := by
  subst hτ
  refine tc_cases (fun q hq => ?_) (fun r b hr hb => ?_) (fun r b hr hb => ?_)
  · rw [if_neg (by omega), tc_H _ _ _ hq, tc_H _ _ _ hq, tH_k _ _ _ _ _ _ _ hk]
  · rw [if_neg (by omega), tc_S _ _ _ hr hb, tc_S _ _ _ hr hb, tS_k _ _ _ _ _ _ _ _ h6]
  · rw [tc_O _ _ _ hb, tc_O _ _ _ hb]
    by_cases h1 : r = i
    · subst h1
      by_cases h2 : b = a
      · subst h2
        rw [if_pos rfl, he]
      · rw [if_neg (by omega), ho b hb h2]
    · rw [if_neg (by omega), tO_ne _ _ _ _ _ _ h1 hk]
theorem tc_setT {G : oG} {t : Nat} {τ : oT} {j : Nat} {x : Int32} {e : va_E} (he : tH G t (su τ 18 0 j x) 0 = e) : ∀ q, q < 67 → tc G t (su τ 18 0 j x) q = if q = 0 then e else tc G t τ q := by
  refine tc_cases (fun q hq => ?_) (fun r b hr hb => ?_) (fun r b hr hb => ?_)
  · rw [tc_H _ _ _ hq, tc_H _ _ _ hq]
    rcases (show q = 0 ∨ q = 1 ∨ q = 2 by omega) with rfl | rfl | rfl
    · rw [if_pos rfl, he]
    · rw [if_neg (by omega)]; rfl
    · rw [if_neg (by omega)]; rfl
  · rw [if_neg (by omega), tc_S _ _ _ hr hb, tc_S _ _ _ hr hb, su_sw, tS_k _ _ _ _ _ _ _ _ (by omega)]
  · rw [if_neg (by omega), tc_O _ _ _ hb, tc_O _ _ _ hb, su_sw, tO_k _ _ _ _ _ _ _ _ (by omega)]
theorem tw_T (G : oG) (Z : oZ) {t : Nat} (ht : t < 2) (τ : oT) : (tw G Z t τ)[1 + 67 * t + (0)]? = some (ta G t (0), .inr (5, [.ref (ta G t (1)), .ref (ta G t (2)), .int (τ 18 0 0), .int (τ 18 0 1), .int (τ 18 0 2)])) := tw_at ht (by omega) (tc_H G t τ (by decide))
theorem tw_SA (G : oG) (Z : oZ) {t : Nat} (ht : t < 2) (τ : oT) : (tw G Z t τ)[1 + 67 * t + (1)]? = some (ta G t (1), .inl (G.2.2 1, 6, .inr (.inr (.inr (.inr (fun j => some (ta G t (3 + 4 * j)))))))) := tw_at ht (by omega) (tc_H G t τ (by decide))
theorem tw_OA (G : oG) (Z : oZ) {t : Nat} (ht : t < 2) (τ : oT) : (tw G Z t τ)[1 + 67 * t + (2)]? = some (ta G t (2), .inl (G.2.2 2, 8, .inr (.inr (.inr (.inr (fun j => some (ta G t (27 + 5 * j)))))))) := tw_at ht (by omega) (tc_H G t τ (by decide))
theorem tw_S (G : oG) (Z : oZ) {t : Nat} (ht : t < 2) (τ : oT) {s : Nat} (h : s < 6) : (tw G Z t τ)[1 + 67 * t + (3 + 4 * s)]? = some (ta G t (3 + 4 * s), .inr (4, [.ref (ta G t (4 + 4 * s)), .ref (ta G t (5 + 4 * s)), .ref (ta G t (6 + 4 * s)), .int (τ 3 s 0), .int (τ 4 s 0), .int (τ 5 s 0)])) := tw_at ht (by omega) (tc_S G t τ h (by decide) (j := 0))
theorem tw_Sp (G : oG) (Z : oZ) {t : Nat} (ht : t < 2) (τ : oT) {s : Nat} (h : s < 6) : (tw G Z t τ)[1 + 67 * t + (4 + 4 * s)]? = some (ta G t (4 + 4 * s), .inl (G.2.2 0, 24, .inl (τ 0 s))) := tw_at ht (by omega) (by rw [show 4 + 4 * s = 3 + 4 * s + 1 by omega]; exact tc_S G t τ h (by decide))
theorem tw_St (G : oG) (Z : oZ) {t : Nat} (ht : t < 2) (τ : oT) {s : Nat} (h : s < 6) : (tw G Z t τ)[1 + 67 * t + (5 + 4 * s)]? = some (ta G t (5 + 4 * s), .inl (G.2.2 0, 6, .inl (τ 1 s))) := tw_at ht (by omega) (by rw [show 5 + 4 * s = 3 + 4 * s + 2 by omega]; exact tc_S G t τ h (by decide))
theorem tw_Sw (G : oG) (Z : oZ) {t : Nat} (ht : t < 2) (τ : oT) {s : Nat} (h : s < 6) : (tw G Z t τ)[1 + 67 * t + (6 + 4 * s)]? = some (ta G t (6 + 4 * s), .inl (G.2.2 0, 6, .inl (τ 2 s))) := tw_at ht (by omega) (by rw [show 6 + 4 * s = 3 + 4 * s + 3 by omega]; exact tc_S G t τ h (by decide))
theorem tw_O (G : oG) (Z : oZ) {t : Nat} (ht : t < 2) (τ : oT) {i : Nat} (h : i < 8) : (tw G Z t τ)[1 + 67 * t + (27 + 5 * i)]? = some (ta G t (27 + 5 * i), .inr (2, [.ref (ta G t (28 + 5 * i)), .ref (ta G t (29 + 5 * i)), .ref (ta G t (30 + 5 * i)), .ref (ta G t (31 + 5 * i)), .int (τ 10 i 0), .int (τ 11 i 0), .int (τ 12 i 0), .int (τ 13 i 0), .int (τ 14 i 0), .int (τ 15 i 0), .int (τ 16 i 0), .int (τ 17 i 0)])) := tw_at ht (by omega) (tc_O G t τ (by decide) (j := 0))
theorem tw_Ot (G : oG) (Z : oZ) {t : Nat} (ht : t < 2) (τ : oT) {i : Nat} (h : i < 8) : (tw G Z t τ)[1 + 67 * t + (28 + 5 * i)]? = some (ta G t (28 + 5 * i), .inl (G.2.2 0, 8, .inl (τ 6 i))) := tw_at ht (by omega) (by rw [show 28 + 5 * i = 27 + 5 * i + 1 by omega]; exact tc_O G t τ (by decide))
theorem tw_Ow (G : oG) (Z : oZ) {t : Nat} (ht : t < 2) (τ : oT) {i : Nat} (h : i < 8) : (tw G Z t τ)[1 + 67 * t + (29 + 5 * i)]? = some (ta G t (29 + 5 * i), .inl (G.2.2 0, 6, .inl (τ 7 i))) := tw_at ht (by omega) (by rw [show 29 + 5 * i = 27 + 5 * i + 2 by omega]; exact tc_O G t τ (by decide))
theorem tw_Oc (G : oG) (Z : oZ) {t : Nat} (ht : t < 2) (τ : oT) {i : Nat} (h : i < 8) : (tw G Z t τ)[1 + 67 * t + (30 + 5 * i)]? = some (ta G t (30 + 5 * i), .inl (G.2.2 0, 6, .inl (τ 8 i))) := tw_at ht (by omega) (by rw [show 30 + 5 * i = 27 + 5 * i + 3 by omega]; exact tc_O G t τ (by decide))
theorem tw_Ob (G : oG) (Z : oZ) {t : Nat} (ht : t < 2) (τ : oT) {i : Nat} (h : i < 8) : (tw G Z t τ)[1 + 67 * t + (31 + 5 * i)]? = some (ta G t (31 + 5 * i), .inl (G.2.2 0, 6, .inl (τ 9 i))) := tw_at ht (by omega) (by rw [show 31 + 5 * i = 27 + 5 * i + 4 by omega]; exact tc_O G t τ (by decide))
theorem tx_at {G : oG} {Z : oZ} {t u k : Nat} {τ : oT} {e : va_E} (hu : u < 2) (hn : u ≠ t) (hk : k < 67) (he : tc G u (Z u) k = e) : (tw G Z t τ)[1 + 67 * u + k]? = some (ta G u k, e) := cw_at hu hk (by rw [setT_n _ _ hn]; exact he)
theorem tx_T (G : oG) (Z : oZ) {t u : Nat} (hu : u < 2) (hn : u ≠ t) (τ : oT) : (tw G Z t τ)[1 + 67 * u + (0)]? = some (ta G u (0), .inr (5, [.ref (ta G u (1)), .ref (ta G u (2)), .int (Z u 18 0 0), .int (Z u 18 0 1), .int (Z u 18 0 2)])) := tx_at hu hn (by omega) (tc_H G u (Z u) (by decide))
theorem tx_SA (G : oG) (Z : oZ) {t u : Nat} (hu : u < 2) (hn : u ≠ t) (τ : oT) : (tw G Z t τ)[1 + 67 * u + (1)]? = some (ta G u (1), .inl (G.2.2 1, 6, .inr (.inr (.inr (.inr (fun j => some (ta G u (3 + 4 * j)))))))) := tx_at hu hn (by omega) (tc_H G u (Z u) (by decide))
theorem tx_OA (G : oG) (Z : oZ) {t u : Nat} (hu : u < 2) (hn : u ≠ t) (τ : oT) : (tw G Z t τ)[1 + 67 * u + (2)]? = some (ta G u (2), .inl (G.2.2 2, 8, .inr (.inr (.inr (.inr (fun j => some (ta G u (27 + 5 * j)))))))) := tx_at hu hn (by omega) (tc_H G u (Z u) (by decide))
theorem tx_S (G : oG) (Z : oZ) {t u : Nat} (hu : u < 2) (hn : u ≠ t) (τ : oT) {s : Nat} (h : s < 6) : (tw G Z t τ)[1 + 67 * u + (3 + 4 * s)]? = some (ta G u (3 + 4 * s), .inr (4, [.ref (ta G u (4 + 4 * s)), .ref (ta G u (5 + 4 * s)), .ref (ta G u (6 + 4 * s)), .int (Z u 3 s 0), .int (Z u 4 s 0), .int (Z u 5 s 0)])) := tx_at hu hn (by omega) (tc_S G u (Z u) h (by decide) (j := 0))
theorem tx_Sp (G : oG) (Z : oZ) {t u : Nat} (hu : u < 2) (hn : u ≠ t) (τ : oT) {s : Nat} (h : s < 6) : (tw G Z t τ)[1 + 67 * u + (4 + 4 * s)]? = some (ta G u (4 + 4 * s), .inl (G.2.2 0, 24, .inl (Z u 0 s))) := tx_at hu hn (by omega) (by rw [show 4 + 4 * s = 3 + 4 * s + 1 by omega]; exact tc_S G u (Z u) h (by decide))
theorem tx_St (G : oG) (Z : oZ) {t u : Nat} (hu : u < 2) (hn : u ≠ t) (τ : oT) {s : Nat} (h : s < 6) : (tw G Z t τ)[1 + 67 * u + (5 + 4 * s)]? = some (ta G u (5 + 4 * s), .inl (G.2.2 0, 6, .inl (Z u 1 s))) := tx_at hu hn (by omega) (by rw [show 5 + 4 * s = 3 + 4 * s + 2 by omega]; exact tc_S G u (Z u) h (by decide))
theorem tx_Sw (G : oG) (Z : oZ) {t u : Nat} (hu : u < 2) (hn : u ≠ t) (τ : oT) {s : Nat} (h : s < 6) : (tw G Z t τ)[1 + 67 * u + (6 + 4 * s)]? = some (ta G u (6 + 4 * s), .inl (G.2.2 0, 6, .inl (Z u 2 s))) := tx_at hu hn (by omega) (by rw [show 6 + 4 * s = 3 + 4 * s + 3 by omega]; exact tc_S G u (Z u) h (by decide))
theorem tx_O (G : oG) (Z : oZ) {t u : Nat} (hu : u < 2) (hn : u ≠ t) (τ : oT) {i : Nat} (h : i < 8) : (tw G Z t τ)[1 + 67 * u + (27 + 5 * i)]? = some (ta G u (27 + 5 * i), .inr (2, [.ref (ta G u (28 + 5 * i)), .ref (ta G u (29 + 5 * i)), .ref (ta G u (30 + 5 * i)), .ref (ta G u (31 + 5 * i)), .int (Z u 10 i 0), .int (Z u 11 i 0), .int (Z u 12 i 0), .int (Z u 13 i 0), .int (Z u 14 i 0), .int (Z u 15 i 0), .int (Z u 16 i 0), .int (Z u 17 i 0)])) := tx_at hu hn (by omega) (tc_O G u (Z u) (by decide) (j := 0))
theorem tx_Ot (G : oG) (Z : oZ) {t u : Nat} (hu : u < 2) (hn : u ≠ t) (τ : oT) {i : Nat} (h : i < 8) : (tw G Z t τ)[1 + 67 * u + (28 + 5 * i)]? = some (ta G u (28 + 5 * i), .inl (G.2.2 0, 8, .inl (Z u 6 i))) := tx_at hu hn (by omega) (by rw [show 28 + 5 * i = 27 + 5 * i + 1 by omega]; exact tc_O G u (Z u) (by decide))
theorem tx_Ow (G : oG) (Z : oZ) {t u : Nat} (hu : u < 2) (hn : u ≠ t) (τ : oT) {i : Nat} (h : i < 8) : (tw G Z t τ)[1 + 67 * u + (29 + 5 * i)]? = some (ta G u (29 + 5 * i), .inl (G.2.2 0, 6, .inl (Z u 7 i))) := tx_at hu hn (by omega) (by rw [show 29 + 5 * i = 27 + 5 * i + 2 by omega]; exact tc_O G u (Z u) (by decide))
theorem tx_Oc (G : oG) (Z : oZ) {t u : Nat} (hu : u < 2) (hn : u ≠ t) (τ : oT) {i : Nat} (h : i < 8) : (tw G Z t τ)[1 + 67 * u + (30 + 5 * i)]? = some (ta G u (30 + 5 * i), .inl (G.2.2 0, 6, .inl (Z u 8 i))) := tx_at hu hn (by omega) (by rw [show 30 + 5 * i = 27 + 5 * i + 3 by omega]; exact tc_O G u (Z u) (by decide))
theorem tx_Ob (G : oG) (Z : oZ) {t u : Nat} (hu : u < 2) (hn : u ≠ t) (τ : oT) {i : Nat} (h : i < 8) : (tw G Z t τ)[1 + 67 * u + (31 + 5 * i)]? = some (ta G u (31 + 5 * i), .inl (G.2.2 0, 6, .inl (Z u 9 i))) := tx_at hu hn (by omega) (by rw [show 31 + 5 * i = 27 + 5 * i + 4 by omega]; exact tc_O G u (Z u) (by decide))
theorem tw_uS3 (G : oG) (Z : oZ) {t : Nat} (ht : t < 2) (τ : oT) {s : Nat} (h : s < 6) (x : Int32) : (tw G Z t τ).set (1 + 67 * t + (3 + 4 * s)) (ta G t (3 + 4 * s), .inr (4, [.ref (ta G t (4 + 4 * s)), .ref (ta G t (5 + 4 * s)), .ref (ta G t (6 + 4 * s)), .int x, .int (τ 4 s 0), .int (τ 5 s 0)])) = tw G Z t (su τ 3 s 0 x) := tw_set ht (by omega) (tc_setS (a := 0) (su_sw _ _ _ _ _) h (by decide) (by decide) (by simp [tS, su]) (fun b hb h0 => by rcases (show b = 1 ∨ b = 2 ∨ b = 3 by omega) with rfl | rfl | rfl <;> rfl))
theorem tw_uS4 (G : oG) (Z : oZ) {t : Nat} (ht : t < 2) (τ : oT) {s : Nat} (h : s < 6) (x : Int32) : (tw G Z t τ).set (1 + 67 * t + (3 + 4 * s)) (ta G t (3 + 4 * s), .inr (4, [.ref (ta G t (4 + 4 * s)), .ref (ta G t (5 + 4 * s)), .ref (ta G t (6 + 4 * s)), .int (τ 3 s 0), .int x, .int (τ 5 s 0)])) = tw G Z t (su τ 4 s 0 x) := tw_set ht (by omega) (tc_setS (a := 0) (su_sw _ _ _ _ _) h (by decide) (by decide) (by simp [tS, su]) (fun b hb h0 => by rcases (show b = 1 ∨ b = 2 ∨ b = 3 by omega) with rfl | rfl | rfl <;> rfl))
theorem tw_uS5 (G : oG) (Z : oZ) {t : Nat} (ht : t < 2) (τ : oT) {s : Nat} (h : s < 6) (x : Int32) : (tw G Z t τ).set (1 + 67 * t + (3 + 4 * s)) (ta G t (3 + 4 * s), .inr (4, [.ref (ta G t (4 + 4 * s)), .ref (ta G t (5 + 4 * s)), .ref (ta G t (6 + 4 * s)), .int (τ 3 s 0), .int (τ 4 s 0), .int x])) = tw G Z t (su τ 5 s 0 x) := tw_set ht (by omega) (tc_setS (a := 0) (su_sw _ _ _ _ _) h (by decide) (by decide) (by simp [tS, su]) (fun b hb h0 => by rcases (show b = 1 ∨ b = 2 ∨ b = 3 by omega) with rfl | rfl | rfl <;> rfl))
theorem tw_uS0 (G : oG) (Z : oZ) {t : Nat} (ht : t < 2) (τ : oT) {s : Nat} (h : s < 6) (j : Nat) (x : Int32) : (tw G Z t τ).set (1 + 67 * t + (4 + 4 * s)) (ta G t (4 + 4 * s), .inl (G.2.2 0, 24, .inl (upd (τ 0 s) j x))) = tw G Z t (su τ 0 s j x) := tw_set ht (by omega) (by rw [show 4 + 4 * s = 3 + 4 * s + 1 by omega]; exact tc_setS (a := 1) (su_sw _ _ _ _ _) h (by decide) (by decide) (by simp [tS, su_row]) (fun b hb h0 => by rcases (show b = 0 ∨ b = 2 ∨ b = 3 by omega) with rfl | rfl | rfl <;> rfl))
theorem tw_uS1 (G : oG) (Z : oZ) {t : Nat} (ht : t < 2) (τ : oT) {s : Nat} (h : s < 6) (j : Nat) (x : Int32) : (tw G Z t τ).set (1 + 67 * t + (5 + 4 * s)) (ta G t (5 + 4 * s), .inl (G.2.2 0, 6, .inl (upd (τ 1 s) j x))) = tw G Z t (su τ 1 s j x) := tw_set ht (by omega) (by rw [show 5 + 4 * s = 3 + 4 * s + 2 by omega]; exact tc_setS (a := 2) (su_sw _ _ _ _ _) h (by decide) (by decide) (by simp [tS, su_row]) (fun b hb h0 => by rcases (show b = 0 ∨ b = 1 ∨ b = 3 by omega) with rfl | rfl | rfl <;> rfl))
theorem tw_uS2 (G : oG) (Z : oZ) {t : Nat} (ht : t < 2) (τ : oT) {s : Nat} (h : s < 6) (j : Nat) (x : Int32) : (tw G Z t τ).set (1 + 67 * t + (6 + 4 * s)) (ta G t (6 + 4 * s), .inl (G.2.2 0, 6, .inl (upd (τ 2 s) j x))) = tw G Z t (su τ 2 s j x) := tw_set ht (by omega) (by rw [show 6 + 4 * s = 3 + 4 * s + 3 by omega]; exact tc_setS (a := 3) (su_sw _ _ _ _ _) h (by decide) (by decide) (by simp [tS, su_row]) (fun b hb h0 => by rcases (show b = 0 ∨ b = 1 ∨ b = 2 by omega) with rfl | rfl | rfl <;> rfl))
theorem tw_uO10 (G : oG) (Z : oZ) {t : Nat} (ht : t < 2) (τ : oT) {i : Nat} (h : i < 8) (x : Int32) : (tw G Z t τ).set (1 + 67 * t + (27 + 5 * i)) (ta G t (27 + 5 * i), .inr (2, [.ref (ta G t (28 + 5 * i)), .ref (ta G t (29 + 5 * i)), .ref (ta G t (30 + 5 * i)), .ref (ta G t (31 + 5 * i)), .int x, .int (τ 11 i 0), .int (τ 12 i 0), .int (τ 13 i 0), .int (τ 14 i 0), .int (τ 15 i 0), .int (τ 16 i 0), .int (τ 17 i 0)])) = tw G Z t (su τ 10 i 0 x) := tw_set ht (by omega) (tc_setO (a := 0) (su_sw _ _ _ _ _) h (by decide) (by decide) (by decide) (by simp [tO, su]) (fun b hb h0 => by rcases (show b = 1 ∨ b = 2 ∨ b = 3 ∨ b = 4 by omega) with rfl | rfl | rfl | rfl <;> rfl))
theorem tw_uO11 (G : oG) (Z : oZ) {t : Nat} (ht : t < 2) (τ : oT) {i : Nat} (h : i < 8) (x : Int32) : (tw G Z t τ).set (1 + 67 * t + (27 + 5 * i)) (ta G t (27 + 5 * i), .inr (2, [.ref (ta G t (28 + 5 * i)), .ref (ta G t (29 + 5 * i)), .ref (ta G t (30 + 5 * i)), .ref (ta G t (31 + 5 * i)), .int (τ 10 i 0), .int x, .int (τ 12 i 0), .int (τ 13 i 0), .int (τ 14 i 0), .int (τ 15 i 0), .int (τ 16 i 0), .int (τ 17 i 0)])) = tw G Z t (su τ 11 i 0 x) := tw_set ht (by omega) (tc_setO (a := 0) (su_sw _ _ _ _ _) h (by decide) (by decide) (by decide) (by simp [tO, su]) (fun b hb h0 => by rcases (show b = 1 ∨ b = 2 ∨ b = 3 ∨ b = 4 by omega) with rfl | rfl | rfl | rfl <;> rfl))
theorem tw_uO12 (G : oG) (Z : oZ) {t : Nat} (ht : t < 2) (τ : oT) {i : Nat} (h : i < 8) (x : Int32) : (tw G Z t τ).set (1 + 67 * t + (27 + 5 * i)) (ta G t (27 + 5 * i), .inr (2, [.ref (ta G t (28 + 5 * i)), .ref (ta G t (29 + 5 * i)), .ref (ta G t (30 + 5 * i)), .ref (ta G t (31 + 5 * i)), .int (τ 10 i 0), .int (τ 11 i 0), .int x, .int (τ 13 i 0), .int (τ 14 i 0), .int (τ 15 i 0), .int (τ 16 i 0), .int (τ 17 i 0)])) = tw G Z t (su τ 12 i 0 x) := tw_set ht (by omega) (tc_setO (a := 0) (su_sw _ _ _ _ _) h (by decide) (by decide) (by decide) (by simp [tO, su]) (fun b hb h0 => by rcases (show b = 1 ∨ b = 2 ∨ b = 3 ∨ b = 4 by omega) with rfl | rfl | rfl | rfl <;> rfl))
theorem tw_uO13 (G : oG) (Z : oZ) {t : Nat} (ht : t < 2) (τ : oT) {i : Nat} (h : i < 8) (x : Int32) : (tw G Z t τ).set (1 + 67 * t + (27 + 5 * i)) (ta G t (27 + 5 * i), .inr (2, [.ref (ta G t (28 + 5 * i)), .ref (ta G t (29 + 5 * i)), .ref (ta G t (30 + 5 * i)), .ref (ta G t (31 + 5 * i)), .int (τ 10 i 0), .int (τ 11 i 0), .int (τ 12 i 0), .int x, .int (τ 14 i 0), .int (τ 15 i 0), .int (τ 16 i 0), .int (τ 17 i 0)])) = tw G Z t (su τ 13 i 0 x) := tw_set ht (by omega) (tc_setO (a := 0) (su_sw _ _ _ _ _) h (by decide) (by decide) (by decide) (by simp [tO, su]) (fun b hb h0 => by rcases (show b = 1 ∨ b = 2 ∨ b = 3 ∨ b = 4 by omega) with rfl | rfl | rfl | rfl <;> rfl))
theorem tw_uO14 (G : oG) (Z : oZ) {t : Nat} (ht : t < 2) (τ : oT) {i : Nat} (h : i < 8) (x : Int32) : (tw G Z t τ).set (1 + 67 * t + (27 + 5 * i)) (ta G t (27 + 5 * i), .inr (2, [.ref (ta G t (28 + 5 * i)), .ref (ta G t (29 + 5 * i)), .ref (ta G t (30 + 5 * i)), .ref (ta G t (31 + 5 * i)), .int (τ 10 i 0), .int (τ 11 i 0), .int (τ 12 i 0), .int (τ 13 i 0), .int x, .int (τ 15 i 0), .int (τ 16 i 0), .int (τ 17 i 0)])) = tw G Z t (su τ 14 i 0 x) := tw_set ht (by omega) (tc_setO (a := 0) (su_sw _ _ _ _ _) h (by decide) (by decide) (by decide) (by simp [tO, su]) (fun b hb h0 => by rcases (show b = 1 ∨ b = 2 ∨ b = 3 ∨ b = 4 by omega) with rfl | rfl | rfl | rfl <;> rfl))
theorem tw_uO15 (G : oG) (Z : oZ) {t : Nat} (ht : t < 2) (τ : oT) {i : Nat} (h : i < 8) (x : Int32) : (tw G Z t τ).set (1 + 67 * t + (27 + 5 * i)) (ta G t (27 + 5 * i), .inr (2, [.ref (ta G t (28 + 5 * i)), .ref (ta G t (29 + 5 * i)), .ref (ta G t (30 + 5 * i)), .ref (ta G t (31 + 5 * i)), .int (τ 10 i 0), .int (τ 11 i 0), .int (τ 12 i 0), .int (τ 13 i 0), .int (τ 14 i 0), .int x, .int (τ 16 i 0), .int (τ 17 i 0)])) = tw G Z t (su τ 15 i 0 x) := tw_set ht (by omega) (tc_setO (a := 0) (su_sw _ _ _ _ _) h (by decide) (by decide) (by decide) (by simp [tO, su]) (fun b hb h0 => by rcases (show b = 1 ∨ b = 2 ∨ b = 3 ∨ b = 4 by omega) with rfl | rfl | rfl | rfl <;> rfl))
theorem tw_uO16 (G : oG) (Z : oZ) {t : Nat} (ht : t < 2) (τ : oT) {i : Nat} (h : i < 8) (x : Int32) : (tw G Z t τ).set (1 + 67 * t + (27 + 5 * i)) (ta G t (27 + 5 * i), .inr (2, [.ref (ta G t (28 + 5 * i)), .ref (ta G t (29 + 5 * i)), .ref (ta G t (30 + 5 * i)), .ref (ta G t (31 + 5 * i)), .int (τ 10 i 0), .int (τ 11 i 0), .int (τ 12 i 0), .int (τ 13 i 0), .int (τ 14 i 0), .int (τ 15 i 0), .int x, .int (τ 17 i 0)])) = tw G Z t (su τ 16 i 0 x) := tw_set ht (by omega) (tc_setO (a := 0) (su_sw _ _ _ _ _) h (by decide) (by decide) (by decide) (by simp [tO, su]) (fun b hb h0 => by rcases (show b = 1 ∨ b = 2 ∨ b = 3 ∨ b = 4 by omega) with rfl | rfl | rfl | rfl <;> rfl))
theorem tw_uO17 (G : oG) (Z : oZ) {t : Nat} (ht : t < 2) (τ : oT) {i : Nat} (h : i < 8) (x : Int32) : (tw G Z t τ).set (1 + 67 * t + (27 + 5 * i)) (ta G t (27 + 5 * i), .inr (2, [.ref (ta G t (28 + 5 * i)), .ref (ta G t (29 + 5 * i)), .ref (ta G t (30 + 5 * i)), .ref (ta G t (31 + 5 * i)), .int (τ 10 i 0), .int (τ 11 i 0), .int (τ 12 i 0), .int (τ 13 i 0), .int (τ 14 i 0), .int (τ 15 i 0), .int (τ 16 i 0), .int x])) = tw G Z t (su τ 17 i 0 x) := tw_set ht (by omega) (tc_setO (a := 0) (su_sw _ _ _ _ _) h (by decide) (by decide) (by decide) (by simp [tO, su]) (fun b hb h0 => by rcases (show b = 1 ∨ b = 2 ∨ b = 3 ∨ b = 4 by omega) with rfl | rfl | rfl | rfl <;> rfl))
theorem tw_uO6 (G : oG) (Z : oZ) {t : Nat} (ht : t < 2) (τ : oT) {i : Nat} (h : i < 8) (j : Nat) (x : Int32) : (tw G Z t τ).set (1 + 67 * t + (28 + 5 * i)) (ta G t (28 + 5 * i), .inl (G.2.2 0, 8, .inl (upd (τ 6 i) j x))) = tw G Z t (su τ 6 i j x) := tw_set ht (by omega) (by rw [show 28 + 5 * i = 27 + 5 * i + 1 by omega]; exact tc_setO (a := 1) (su_sw _ _ _ _ _) h (by decide) (by decide) (by decide) (by simp [tO, su_row]) (fun b hb h0 => by rcases (show b = 0 ∨ b = 2 ∨ b = 3 ∨ b = 4 by omega) with rfl | rfl | rfl | rfl <;> rfl))
theorem tw_uO7 (G : oG) (Z : oZ) {t : Nat} (ht : t < 2) (τ : oT) {i : Nat} (h : i < 8) (j : Nat) (x : Int32) : (tw G Z t τ).set (1 + 67 * t + (29 + 5 * i)) (ta G t (29 + 5 * i), .inl (G.2.2 0, 6, .inl (upd (τ 7 i) j x))) = tw G Z t (su τ 7 i j x) := tw_set ht (by omega) (by rw [show 29 + 5 * i = 27 + 5 * i + 2 by omega]; exact tc_setO (a := 2) (su_sw _ _ _ _ _) h (by decide) (by decide) (by decide) (by simp [tO, su_row]) (fun b hb h0 => by rcases (show b = 0 ∨ b = 1 ∨ b = 3 ∨ b = 4 by omega) with rfl | rfl | rfl | rfl <;> rfl))
theorem tw_uO8 (G : oG) (Z : oZ) {t : Nat} (ht : t < 2) (τ : oT) {i : Nat} (h : i < 8) (j : Nat) (x : Int32) : (tw G Z t τ).set (1 + 67 * t + (30 + 5 * i)) (ta G t (30 + 5 * i), .inl (G.2.2 0, 6, .inl (upd (τ 8 i) j x))) = tw G Z t (su τ 8 i j x) := tw_set ht (by omega) (by rw [show 30 + 5 * i = 27 + 5 * i + 3 by omega]; exact tc_setO (a := 3) (su_sw _ _ _ _ _) h (by decide) (by decide) (by decide) (by simp [tO, su_row]) (fun b hb h0 => by rcases (show b = 0 ∨ b = 1 ∨ b = 2 ∨ b = 4 by omega) with rfl | rfl | rfl | rfl <;> rfl))
theorem tw_uO9 (G : oG) (Z : oZ) {t : Nat} (ht : t < 2) (τ : oT) {i : Nat} (h : i < 8) (j : Nat) (x : Int32) : (tw G Z t τ).set (1 + 67 * t + (31 + 5 * i)) (ta G t (31 + 5 * i), .inl (G.2.2 0, 6, .inl (upd (τ 9 i) j x))) = tw G Z t (su τ 9 i j x) := tw_set ht (by omega) (by rw [show 31 + 5 * i = 27 + 5 * i + 4 by omega]; exact tc_setO (a := 4) (su_sw _ _ _ _ _) h (by decide) (by decide) (by decide) (by simp [tO, su_row]) (fun b hb h0 => by rcases (show b = 0 ∨ b = 1 ∨ b = 2 ∨ b = 3 by omega) with rfl | rfl | rfl | rfl <;> rfl))
theorem tw_wS0 (G : oG) (Z : oZ) {t : Nat} (ht : t < 2) (τ : oT) {s : Nat} (h : s < 6) (x : Nat → Int32) : (tw G Z t τ).set (1 + 67 * t + (4 + 4 * s)) (ta G t (4 + 4 * s), .inl (G.2.2 0, 24, .inl x)) = tw G Z t (sw τ 0 s x) := tw_set ht (by omega) (by rw [show 4 + 4 * s = 3 + 4 * s + 1 by omega]; exact tc_setS (a := 1) rfl h (by decide) (by decide) (by simp [tS, sw]) (fun b hb h0 => by rcases (show b = 0 ∨ b = 2 ∨ b = 3 by omega) with rfl | rfl | rfl <;> rfl))
theorem tw_wS1 (G : oG) (Z : oZ) {t : Nat} (ht : t < 2) (τ : oT) {s : Nat} (h : s < 6) (x : Nat → Int32) : (tw G Z t τ).set (1 + 67 * t + (5 + 4 * s)) (ta G t (5 + 4 * s), .inl (G.2.2 0, 6, .inl x)) = tw G Z t (sw τ 1 s x) := tw_set ht (by omega) (by rw [show 5 + 4 * s = 3 + 4 * s + 2 by omega]; exact tc_setS (a := 2) rfl h (by decide) (by decide) (by simp [tS, sw]) (fun b hb h0 => by rcases (show b = 0 ∨ b = 1 ∨ b = 3 by omega) with rfl | rfl | rfl <;> rfl))
theorem tw_wS2 (G : oG) (Z : oZ) {t : Nat} (ht : t < 2) (τ : oT) {s : Nat} (h : s < 6) (x : Nat → Int32) : (tw G Z t τ).set (1 + 67 * t + (6 + 4 * s)) (ta G t (6 + 4 * s), .inl (G.2.2 0, 6, .inl x)) = tw G Z t (sw τ 2 s x) := tw_set ht (by omega) (by rw [show 6 + 4 * s = 3 + 4 * s + 3 by omega]; exact tc_setS (a := 3) rfl h (by decide) (by decide) (by simp [tS, sw]) (fun b hb h0 => by rcases (show b = 0 ∨ b = 1 ∨ b = 2 by omega) with rfl | rfl | rfl <;> rfl))
theorem tw_wO6 (G : oG) (Z : oZ) {t : Nat} (ht : t < 2) (τ : oT) {i : Nat} (h : i < 8) (x : Nat → Int32) : (tw G Z t τ).set (1 + 67 * t + (28 + 5 * i)) (ta G t (28 + 5 * i), .inl (G.2.2 0, 8, .inl x)) = tw G Z t (sw τ 6 i x) := tw_set ht (by omega) (by rw [show 28 + 5 * i = 27 + 5 * i + 1 by omega]; exact tc_setO (a := 1) rfl h (by decide) (by decide) (by decide) (by simp [tO, sw]) (fun b hb h0 => by rcases (show b = 0 ∨ b = 2 ∨ b = 3 ∨ b = 4 by omega) with rfl | rfl | rfl | rfl <;> rfl))
theorem tw_wO7 (G : oG) (Z : oZ) {t : Nat} (ht : t < 2) (τ : oT) {i : Nat} (h : i < 8) (x : Nat → Int32) : (tw G Z t τ).set (1 + 67 * t + (29 + 5 * i)) (ta G t (29 + 5 * i), .inl (G.2.2 0, 6, .inl x)) = tw G Z t (sw τ 7 i x) := tw_set ht (by omega) (by rw [show 29 + 5 * i = 27 + 5 * i + 2 by omega]; exact tc_setO (a := 2) rfl h (by decide) (by decide) (by decide) (by simp [tO, sw]) (fun b hb h0 => by rcases (show b = 0 ∨ b = 1 ∨ b = 3 ∨ b = 4 by omega) with rfl | rfl | rfl | rfl <;> rfl))
theorem tw_wO8 (G : oG) (Z : oZ) {t : Nat} (ht : t < 2) (τ : oT) {i : Nat} (h : i < 8) (x : Nat → Int32) : (tw G Z t τ).set (1 + 67 * t + (30 + 5 * i)) (ta G t (30 + 5 * i), .inl (G.2.2 0, 6, .inl x)) = tw G Z t (sw τ 8 i x) := tw_set ht (by omega) (by rw [show 30 + 5 * i = 27 + 5 * i + 3 by omega]; exact tc_setO (a := 3) rfl h (by decide) (by decide) (by decide) (by simp [tO, sw]) (fun b hb h0 => by rcases (show b = 0 ∨ b = 1 ∨ b = 2 ∨ b = 4 by omega) with rfl | rfl | rfl | rfl <;> rfl))
theorem tw_wO9 (G : oG) (Z : oZ) {t : Nat} (ht : t < 2) (τ : oT) {i : Nat} (h : i < 8) (x : Nat → Int32) : (tw G Z t τ).set (1 + 67 * t + (31 + 5 * i)) (ta G t (31 + 5 * i), .inl (G.2.2 0, 6, .inl x)) = tw G Z t (sw τ 9 i x) := tw_set ht (by omega) (by rw [show 31 + 5 * i = 27 + 5 * i + 4 by omega]; exact tc_setO (a := 4) rfl h (by decide) (by decide) (by decide) (by simp [tO, sw]) (fun b hb h0 => by rcases (show b = 0 ∨ b = 1 ∨ b = 2 ∨ b = 3 by omega) with rfl | rfl | rfl | rfl <;> rfl))
theorem tw_uT0 (G : oG) (Z : oZ) {t : Nat} (ht : t < 2) (τ : oT) (x : Int32) : (tw G Z t τ).set (1 + 67 * t + (0)) (ta G t (0), .inr (5, [.ref (ta G t (1)), .ref (ta G t (2)), .int x, .int (τ 18 0 1), .int (τ 18 0 2)])) = tw G Z t (su τ 18 0 0 x) := tw_set ht (by omega) (tc_setT (by simp [tH, su]))
theorem tw_uT1 (G : oG) (Z : oZ) {t : Nat} (ht : t < 2) (τ : oT) (x : Int32) : (tw G Z t τ).set (1 + 67 * t + (0)) (ta G t (0), .inr (5, [.ref (ta G t (1)), .ref (ta G t (2)), .int (τ 18 0 0), .int x, .int (τ 18 0 2)])) = tw G Z t (su τ 18 0 1 x) := tw_set ht (by omega) (tc_setT (by simp [tH, su]))
theorem tw_uT2 (G : oG) (Z : oZ) {t : Nat} (ht : t < 2) (τ : oT) (x : Int32) : (tw G Z t τ).set (1 + 67 * t + (0)) (ta G t (0), .inr (5, [.ref (ta G t (1)), .ref (ta G t (2)), .int (τ 18 0 0), .int (τ 18 0 1), .int x])) = tw G Z t (su τ 18 0 2 x) := tw_set ht (by omega) (tc_setT (by simp [tH, su]))
/-- the class's own cells -/
def oA (G : oG) : Nat → Prop := wl_A G.2.1 137
theorem cw_D (G : oG) (Z : oZ) (hI : wl_I G.2.1 137) : va_D (oA G) (cw G Z) := wl_DA hI
theorem tw_D (G : oG) (Z : oZ) (t : Nat) (τ : oT) (hI : wl_I G.2.1 137) : va_D (oA G) (tw G Z t τ) := wl_DA hI
