/-! What the law's start gives: statics, texts -/
def lwF : List Cond := flatC (Jvm.Cond.and given_1 narrow_1)
theorem env_flat {s : State} {args : Array Value} (h : (Jvm.Cond.and given_1 narrow_1).before args s = true) : ∀ w ∈ lwF, w.before args s = true := flat_of_before _ h
theorem lwF_seg {b n : Nat} {f : Nat → Cond} (h : (lwF.drop b).take n = (List.range n).map f) : ∀ j, j < n → f j ∈ lwF := fun j hj =>
  List.mem_of_mem_drop (List.mem_of_mem_take (by rw [h]; exact List.mem_map.mpr ⟨j, List.mem_range.mpr hj, rfl⟩))
theorem env_Nc {s : State} {args : Array Value} (hf : ∀ w ∈ lwF, w.before args s = true) : oNc s := by
  have h : ∀ q ∈ oNCL, Cond.not (.castable q.1 q.2) ∈ lwF := by
    intro q hq
    simp only [oNCL, List.mem_cons, List.not_mem_nil, or_false] at hq
    rcases hq with rfl | rfl | rfl | rfl | rfl | rfl
    · exact List.mem_of_getElem? (i := 225) (by decide +kernel)
    · exact List.mem_of_getElem? (i := 236) (by decide +kernel)
    · exact List.mem_of_getElem? (i := 246) (by decide +kernel)
    · exact List.mem_of_getElem? (i := 235) (by decide +kernel)
    · exact List.mem_of_getElem? (i := 247) (by decide +kernel)
    · exact List.mem_of_getElem? (i := 224) (by decide +kernel)
  exact fun q hq => va_Nc.of (hf _ (h q hq))
theorem env_CS {s : State} {args : Array Value} {A : Nat → Prop} (hts : ∀ w ∈ lw_tbl, w.before args s = true) (hf : ∀ w ∈ lwF, w.before args s = true) (hA : ∀ a : Nat, a < s.heap.size → ¬ A a) : oCS A s s.heap := by
  refine ⟨va_Zof (hts (.laysStatic RJ0 "COMPACT_STRINGS" "Z") (by decide +kernel)) (hts (.initialized RJ0) (by decide +kernel)) (va_eqt (hf (.eq (.static RJ0 "COMPACT_STRINGS" "Z") (.int 1)) (List.mem_of_getElem? (i := 4) (by decide +kernel)))) hA, ?_⟩
  exact va_Zqof (hts (.laysStatic "jdk/internal/util/Preconditions" "SIOOBE_FORMATTER" "Ljava/util/function/BiFunction;") (by decide +kernel)) (hts (.initialized "jdk/internal/util/Preconditions") (by decide +kernel)) (hf (.isRef (.static "jdk/internal/util/Preconditions" "SIOOBE_FORMATTER" "Ljava/util/function/BiFunction;")) (List.mem_of_getElem? (i := 5) (by decide +kernel))) hA
theorem dig1_in : ∀ j, j < 100 → Cond.eq (.elem (.static "java/lang/Integer" "DigitOnes" "[B") (.int (Int32.ofNat j))) (.int (nI (48 + j % 10))) ∈ lwF := lwF_seg (b := 14) (n := 100) (f := fun j => Cond.eq (.elem (.static "java/lang/Integer" "DigitOnes" "[B") (.int (Int32.ofNat j))) (.int (nI (48 + j % 10)))) (by decide +kernel)
theorem dig2_in : ∀ j, j < 100 → Cond.eq (.elem (.static "java/lang/Integer" "DigitTens" "[B") (.int (Int32.ofNat j))) (.int (nI (48 + j / 10))) ∈ lwF := lwF_seg (b := 117) (n := 100) (f := fun j => Cond.eq (.elem (.static "java/lang/Integer" "DigitTens" "[B") (.int (Int32.ofNat j))) (.int (nI (48 + j / 10)))) (by decide +kernel)
theorem env_DT {s : State} {args : Array Value} {A : Nat → Prop} (hts : ∀ w ∈ lw_tbl, w.before args s = true) (hf : ∀ w ∈ lwF, w.before args s = true) (hA : ∀ a : Nat, a < s.heap.size → ¬ A a) : ∃ t1 t2, oDT t1 t2 A s s.heap := by
  obtain ⟨t1, e1, h1⟩ := va_Tof (tm := .static "java/lang/Integer" "DigitOnes" "[B") (ty := .byte) (N := 100) (f := fun k => .int (nI (48 + k % 10))) (by decide) (hf (.arrayOf (.static "java/lang/Integer" "DigitOnes" "[B") .byte) (List.mem_of_getElem? (i := 12) (by decide +kernel))) (va_eqt (hf (.eq (.length (.static "java/lang/Integer" "DigitOnes" "[B")) (.int 100)) (List.mem_of_getElem? (i := 13) (by decide +kernel)))) (fun j hj => va_eqt (hf _ (dig1_in j hj))) hA
  obtain ⟨t2, e2, h2⟩ := va_Tof (tm := .static "java/lang/Integer" "DigitTens" "[B") (ty := .byte) (N := 100) (f := fun k => .int (nI (48 + k / 10))) (by decide) (hf (.arrayOf (.static "java/lang/Integer" "DigitTens" "[B") .byte) (List.mem_of_getElem? (i := 115) (by decide +kernel))) (va_eqt (hf (.eq (.length (.static "java/lang/Integer" "DigitTens" "[B")) (.int 100)) (List.mem_of_getElem? (i := 116) (by decide +kernel)))) (fun j hj => va_eqt (hf _ (dig2_in j hj))) hA
  exact ⟨t1, t2, va_Zof (hts (.laysStatic RJ6 "DigitOnes" "[B") (by decide +kernel)) (hts (.initialized RJ6) (by decide +kernel)) e1 hA, h1, va_Zof (hts (.laysStatic RJ6 "DigitTens" "[B") (by decide +kernel)) (hts (.initialized RJ6) (by decide +kernel)) e2 hA, h2⟩
/-- a text constant: where it is, what it holds -/
theorem env_str {s : State} {args : Array Value} {A : Nat → Prop} {tm : Term} {n : Nat} {bs : List Int32} (hn : n < 2 ^ 31) (hex : (Cond.exactly tm RJ0).before args s = true) (hco : (Cond.eq (.field tm RJ0 "coder" "B") (.int 0)).before args s = true) (har : (Cond.arrayOf (.field tm RJ0 "value" "[B") .byte).before args s = true) (hle : (Cond.eq (.length (.field tm RJ0 "value" "[B")) (.int (Int32.ofNat n))).before args s = true)
    (hel : ∀ j : Nat, j < n → (Cond.eq (.elem (.field tm RJ0 "value" "[B") (.int (Int32.ofNat j))) (.int (bs.getD j 0))).before args s = true) (hA : ∀ a : Nat, a < s.heap.size → ¬ A a) : ∃ a v, tm.eval args s none [] s = some (.ref a) ∧ oSt a v n (fun j => bs.getD j 0) A s s.heap := by
  obtain ⟨aK, aV, h1, h2⟩ := vk_Sof (N := 1) (tm := fun _ => tm) (len := [n]) (byt := [bs]) (A := A) (fun i hi => by rcases (show i = 0 by omega) with rfl; exact hn) (fun _ _ => hex) (fun _ _ => hco) (fun _ _ => har) (fun i hi => by rcases (show i = 0 by omega) with rfl; exact hle) (fun i hi j hj => by rcases (show i = 0 by omega) with rfl; exact hel j hj) (fun i j hi hj hne => absurd (show i = j by omega) hne) hA
  exact ⟨aK 0, aV 0, h2 0 (by decide), h1.1 0 (by decide)⟩
def str1 : List Int32 := [115, 116, 114, 101, 101, 116, 32, 111, 114, 103, 97, 110, 115, 32, 99, 111, 105, 110, 115]
theorem el_c1 : ∀ j, j < 19 → Cond.eq (.elem (.field (.string RX4 146) RJ0 "value" "[B") (.int (Int32.ofNat j))) (.int (str1.getD j 0)) ∈ lwF := lwF_seg (b := 278) (n := 19) (f := fun j => Cond.eq (.elem (.field (.string RX4 146) RJ0 "value" "[B") (.int (Int32.ofNat j))) (.int (str1.getD j 0))) (by decide +kernel)
theorem env_c1 {s : State} {args : Array Value} {A : Nat → Prop} (hts : ∀ w ∈ lw_tbl, w.before args s = true) (hf : ∀ w ∈ lwF, w.before args s = true) (hA : ∀ a : Nat, a < s.heap.size → ¬ A a) : ∃ a v, vk_R RX4 146 "street organs coins" a s ∧ oSt a v 19 (fun j => str1.getD j 0) A s s.heap := by
  obtain ⟨a, v, h1, h2⟩ := env_str (tm := (.string RX4 146)) (n := 19) (bs := str1) (by decide) (hf (.exactly (.string RX4 146) RJ0) (List.mem_of_getElem? (i := 274) (by decide +kernel))) (hf (.eq (.field (.string RX4 146) RJ0 "coder" "B") (.int 0)) (List.mem_of_getElem? (i := 275) (by decide +kernel))) (hf (.arrayOf (.field (.string RX4 146) RJ0 "value" "[B") .byte) (List.mem_of_getElem? (i := 276) (by decide +kernel))) (hf (.eq (.length (.field (.string RX4 146) RJ0 "value" "[B")) (.int 19)) (List.mem_of_getElem? (i := 277) (by decide +kernel))) (fun j hj => hf _ (el_c1 j hj)) hA
  exact ⟨a, v, vk_R.of (hts (.stringRef RX4 146 "street organs coins") (by decide +kernel)) h1, h2⟩
def str2 : List Int32 := [111, 114, 103, 97, 110, 32, 99, 111, 105, 110, 115, 32, 116, 117, 110, 101]
theorem el_c2 : ∀ j, j < 16 → Cond.eq (.elem (.field (.string RX4 163) RJ0 "value" "[B") (.int (Int32.ofNat j))) (.int (str2.getD j 0)) ∈ lwF := lwF_seg (b := 301) (n := 16) (f := fun j => Cond.eq (.elem (.field (.string RX4 163) RJ0 "value" "[B") (.int (Int32.ofNat j))) (.int (str2.getD j 0))) (by decide +kernel)
theorem env_c2 {s : State} {args : Array Value} {A : Nat → Prop} (hts : ∀ w ∈ lw_tbl, w.before args s = true) (hf : ∀ w ∈ lwF, w.before args s = true) (hA : ∀ a : Nat, a < s.heap.size → ¬ A a) : ∃ a v, vk_R RX4 163 "organ coins tune" a s ∧ oSt a v 16 (fun j => str2.getD j 0) A s s.heap := by
  obtain ⟨a, v, h1, h2⟩ := env_str (tm := (.string RX4 163)) (n := 16) (bs := str2) (by decide) (hf (.exactly (.string RX4 163) RJ0) (List.mem_of_getElem? (i := 297) (by decide +kernel))) (hf (.eq (.field (.string RX4 163) RJ0 "coder" "B") (.int 0)) (List.mem_of_getElem? (i := 298) (by decide +kernel))) (hf (.arrayOf (.field (.string RX4 163) RJ0 "value" "[B") .byte) (List.mem_of_getElem? (i := 299) (by decide +kernel))) (hf (.eq (.length (.field (.string RX4 163) RJ0 "value" "[B")) (.int 16)) (List.mem_of_getElem? (i := 300) (by decide +kernel))) (fun j hj => hf _ (el_c2 j hj)) hA
  exact ⟨a, v, vk_R.of (hts (.stringRef RX4 163 "organ coins tune") (by decide +kernel)) h1, h2⟩
theorem el_m1 : ∀ j, j < 19 → Cond.eq (.elem (.field (.string RX6 167) RJ0 "value" "[B") (.int (Int32.ofNat j))) (.int (str1.getD j 0)) ∈ lwF := lwF_seg (b := 469) (n := 19) (f := fun j => Cond.eq (.elem (.field (.string RX6 167) RJ0 "value" "[B") (.int (Int32.ofNat j))) (.int (str1.getD j 0))) (by decide +kernel)
theorem env_m1 {s : State} {args : Array Value} {A : Nat → Prop} (hts : ∀ w ∈ lw_tbl, w.before args s = true) (hf : ∀ w ∈ lwF, w.before args s = true) (hA : ∀ a : Nat, a < s.heap.size → ¬ A a) : ∃ a v, vk_R RX6 167 "street organs coins" a s ∧ oSt a v 19 (fun j => str1.getD j 0) A s s.heap := by
  obtain ⟨a, v, h1, h2⟩ := env_str (tm := (.string RX6 167)) (n := 19) (bs := str1) (by decide) (hf (.exactly (.string RX6 167) RJ0) (List.mem_of_getElem? (i := 465) (by decide +kernel))) (hf (.eq (.field (.string RX6 167) RJ0 "coder" "B") (.int 0)) (List.mem_of_getElem? (i := 466) (by decide +kernel))) (hf (.arrayOf (.field (.string RX6 167) RJ0 "value" "[B") .byte) (List.mem_of_getElem? (i := 467) (by decide +kernel))) (hf (.eq (.length (.field (.string RX6 167) RJ0 "value" "[B")) (.int 19)) (List.mem_of_getElem? (i := 468) (by decide +kernel))) (fun j hj => hf _ (el_m1 j hj)) hA
  exact ⟨a, v, vk_R.of (hts (.stringRef RX6 167 "street organs coins") (by decide +kernel)) h1, h2⟩
theorem el_m2 : ∀ j, j < 16 → Cond.eq (.elem (.field (.string RX6 189) RJ0 "value" "[B") (.int (Int32.ofNat j))) (.int (str2.getD j 0)) ∈ lwF := lwF_seg (b := 531) (n := 16) (f := fun j => Cond.eq (.elem (.field (.string RX6 189) RJ0 "value" "[B") (.int (Int32.ofNat j))) (.int (str2.getD j 0))) (by decide +kernel)
theorem env_m2 {s : State} {args : Array Value} {A : Nat → Prop} (hts : ∀ w ∈ lw_tbl, w.before args s = true) (hf : ∀ w ∈ lwF, w.before args s = true) (hA : ∀ a : Nat, a < s.heap.size → ¬ A a) : ∃ a v, vk_R RX6 189 "organ coins tune" a s ∧ oSt a v 16 (fun j => str2.getD j 0) A s s.heap := by
  obtain ⟨a, v, h1, h2⟩ := env_str (tm := (.string RX6 189)) (n := 16) (bs := str2) (by decide) (hf (.exactly (.string RX6 189) RJ0) (List.mem_of_getElem? (i := 527) (by decide +kernel))) (hf (.eq (.field (.string RX6 189) RJ0 "coder" "B") (.int 0)) (List.mem_of_getElem? (i := 528) (by decide +kernel))) (hf (.arrayOf (.field (.string RX6 189) RJ0 "value" "[B") .byte) (List.mem_of_getElem? (i := 529) (by decide +kernel))) (hf (.eq (.length (.field (.string RX6 189) RJ0 "value" "[B")) (.int 16)) (List.mem_of_getElem? (i := 530) (by decide +kernel))) (fun j hj => hf _ (el_m2 j hj)) hA
  exact ⟨a, v, vk_R.of (hts (.stringRef RX6 189 "organ coins tune") (by decide +kernel)) h1, h2⟩
def str3 : List Int32 := [32]
theorem el_m3 : ∀ j, j < 1 → Cond.eq (.elem (.field (.string RX6 180) RJ0 "value" "[B") (.int (Int32.ofNat j))) (.int (str3.getD j 0)) ∈ lwF := lwF_seg (b := 500) (n := 1) (f := fun j => Cond.eq (.elem (.field (.string RX6 180) RJ0 "value" "[B") (.int (Int32.ofNat j))) (.int (str3.getD j 0))) (by decide +kernel)
theorem env_m3 {s : State} {args : Array Value} {A : Nat → Prop} (hts : ∀ w ∈ lw_tbl, w.before args s = true) (hf : ∀ w ∈ lwF, w.before args s = true) (hA : ∀ a : Nat, a < s.heap.size → ¬ A a) : ∃ a v, vk_R RX6 180 " " a s ∧ oSt a v 1 (fun j => str3.getD j 0) A s s.heap := by
  obtain ⟨a, v, h1, h2⟩ := env_str (tm := (.string RX6 180)) (n := 1) (bs := str3) (by decide) (hf (.exactly (.string RX6 180) RJ0) (List.mem_of_getElem? (i := 496) (by decide +kernel))) (hf (.eq (.field (.string RX6 180) RJ0 "coder" "B") (.int 0)) (List.mem_of_getElem? (i := 497) (by decide +kernel))) (hf (.arrayOf (.field (.string RX6 180) RJ0 "value" "[B") .byte) (List.mem_of_getElem? (i := 498) (by decide +kernel))) (hf (.eq (.length (.field (.string RX6 180) RJ0 "value" "[B")) (.int 1)) (List.mem_of_getElem? (i := 499) (by decide +kernel))) (fun j hj => hf _ (el_m3 j hj)) hA
  exact ⟨a, v, vk_R.of (hts (.stringRef RX6 180 " ") (by decide +kernel)) h1, h2⟩
theorem env_Ex {s : State} {args : Array Value} (hts : ∀ w ∈ lw_tbl, w.before args s = true) (hf : ∀ w ∈ lwF, w.before args s = true) : oEx s := by
  refine ⟨vx_Zqof (hts (.laysStatic Bundle.tN "UNASSIGNED_STACK" Bundle.steD) (by decide +kernel)) (hts (.initialized Bundle.tN) (by decide +kernel)) (hf (.isRef (.static Bundle.tN "UNASSIGNED_STACK" Bundle.steD)) (List.mem_of_getElem? (i := 9) (by decide +kernel))) (fun _ _ h => h), vx_Zqof (hts (.laysStatic Bundle.tN "SUPPRESSED_SENTINEL" Bundle.listD) (by decide +kernel)) (hts (.initialized Bundle.tN) (by decide +kernel)) (hf (.isRef (.static Bundle.tN "SUPPRESSED_SENTINEL" Bundle.listD)) (List.mem_of_getElem? (i := 10) (by decide +kernel))) (fun _ _ h => h), fun q hq => ?_, fun w hw => ?_⟩
  · have hm : ∀ q ∈ oXT, Cond.stringRef RX4 q.1 q.2 ∈ lw_tbl := by decide +kernel
    have hm2 : Cond.exactly (.string RX4 q.1) RJ0 ∈ lwF := by
      have hq2 := hq
      simp only [oXT, List.mem_cons, List.not_mem_nil, or_false] at hq2
      rcases hq2 with rfl | rfl | rfl | rfl | rfl | rfl
      · exact List.mem_of_getElem? (i := 318) (by decide +kernel)
      · exact List.mem_of_getElem? (i := 338) (by decide +kernel)
      · exact List.mem_of_getElem? (i := 361) (by decide +kernel)
      · exact List.mem_of_getElem? (i := 384) (by decide +kernel)
      · exact List.mem_of_getElem? (i := 407) (by decide +kernel)
      · exact List.mem_of_getElem? (i := 429) (by decide +kernel)
    obtain ⟨a, c, cA, kA, q1, -⟩ := Cond.exactly_spec (args := args) (first := s) (o := none) (s := s) (idx := []) (hf _ hm2)
    exact ⟨a, vk_R.of (hts _ (hm q hq)) q1⟩
  · have hm : w ∈ lw_tbl := oNw_in w (List.mem_append_right _ hw)
    exact oXB_cases (P := fun w => w ∈ lw_tbl → va_Nw w s) (fun _ _ h => va_Nw.of rfl (hts _ h)) (fun _ h => va_Nw.of rfl (hts _ h)) w hw hm
