section
/-! WHAT IS WRONG WITH THIS STATEMENT AS IT IS PRINTED. Its first premise is the word 'code' of the law's own method, which says that the method has no exception table. The law of this id catches an exception in its entry (pc 98 to 110, handler 113), so its class file has a table of one row: no launch meets the premise. Every row below is kernel-checked; none of them is meant as the claim's proof. -/
/-- the class file of the law doesn't hold the word of the Statement's head -/
theorem ev_noCode : classFile.hasCode x code maxLocals ret = false := by decide +kernel
/-- the word that would be right: the same code, with its table -/
theorem ev_withTable : classFile.hasCodeWith x code maxLocals ret [(98, 110, 113, 52)] = true := by decide +kernel
/-- it is the law's own word alone: of all the other methods' words the files hold -/
theorem ev_others : List.all (List.drop 1 ((headSpec (Cond.code x code maxLocals ret :: tables_1) room_1).pre.codes ++ (headSpec (Cond.code x code maxLocals ret :: tables_1) room_1).post.codes)) (fun y => (launch0.file? y.1.cls).any fun f => f.hasCode y.1 y.2.1 y.2.2.1 y.2.2.2) = true := by decide +kernel
/-- the codes of a list of words begin with those of its first word -/
theorem ev_first (c : Cond) (ts : List Cond) (R : Room) {q : MethodName × ByteArray × Nat × Option FieldType} (h : q ∈ c.codes) : q ∈ (headSpec (c :: ts) R).pre.codes := List.mem_append_left _ h
theorem ev_own (y : MethodName) (b : ByteArray) (n : Nat) (r : Option FieldType) : (y, b, n, r) ∈ (Cond.code y b n r).codes := List.mem_cons_self
/-- a launch that lists this file, of which the word 'code' doesn't hold, doesn't list the head -/
theorem ev_no {l : Launch} {f : ClassFile.Facts.File} {y : MethodName} {b : ByteArray} {n : Nat} {r : Option FieldType} {ts : List Cond} {R : Room} (h : f.hasCode y b n r = false) : ¬ Lists l f y b n r ts R := by
  rintro ⟨-, hfile, ⟨hcodes, -, -, -⟩, -⟩
  have h1 := hcodes (y, b, n, r) (List.mem_append_left _ (ev_first _ _ _ (ev_own y b n r)))
  have h2 : ((l.file? y.cls).any fun g => g.hasCode y b n r) = true := h1
  rw [hfile] at h2
  have h3 : f.hasCode y b n r = true := h2
  rw [h] at h3
  cases h3
/-- no launch at all meets the Statement's premise -/
theorem ev_none (l : Launch) : ¬ Lists l classFile x code maxLocals ret tables_1 room_1 := ev_no ev_noCode
/-- so three things that the Statement claims beside its arms are false: the pinning, the launch's lists, the witness -/
theorem ev_pinned : ¬ PinnedClaimed := fun h => absurd (ev_noCode.symm.trans h) (by decide)
theorem ev_lists : ¬ ListsClaimed_1 := ev_none launch0
theorem ev_witness : ¬ WitnessClaimed_1 := by
  rintro ⟨p, e, s, m, args, below, hl, -⟩
  exact ev_none launch0 hl
/-- and what is owed holds of nothing: of this it follows, whatever the class does, so it says nothing of the class -/
theorem ev_empty : Claimed_1_1 ∧ Claimed_1_2 := ⟨fun l _ hl _ => absurd hl (ev_none l), fun l _ hl _ => absurd hl (ev_none l)⟩
end
