/-! the mean -/
theorem oMean_n (x : Int32) {n : Int32} (h : n ≠ 0) : vf_n64 (FP.ddiv (FP.i2d x) (FP.i2d n)) := Jvm.Free.Fl.ddiv_out (Jvm.Free.Fl.i2d_fin x).noNaN (Jvm.Free.Fl.i2d_fin n) (Jvm.Free.Fl.i2d_nz h)
section OMEAN
variable {p : Program} {l : Launch} {e : Env} {R : Room} {s : State} {m : MethodId} {args : Array Value} {below : List Frame} {meth : Method} {c : Code} {H : Heap} {locs : List Loc} {cells slots : Nat}
  {cc : ByteArray} {pc : Nat} {ls : Array Slot} {free : Addr → Prop} {A : Nat → Prop} {PH : Heap → Prop}
theorem o_dretR {v r : UInt64} (hx : p.tables.exec = Jvm.exec) (hb : c.code = cc) (hr : meth.sig.returnType = some .double) (hlocks : meth.locks = false) (hdg : decode cc pc = .ok (.dreturn, 1)) (he : v = r) : W p l e R s m args below meth c s.heap [] 0 0 (MQ below (oR (some (.double r))) args s 0 0 free) (F0 m pc ls [.double v]) :=
  W.dret hx hb hr (fun t ht _ => ⟨by rw [he], ht⟩) (fun q hq => absurd hq List.not_mem_nil) hdg hlocks
theorem o_dretM {v r : UInt64} (hx : p.tables.exec = Jvm.exec) (hb : c.code = cc) (hr : meth.sig.returnType = some .double) (hlocks : meth.locks = false) (hS : va_S A s.heap H locs) (hdg : decode cc pc = .ok (.dreturn, 1)) (hp : PH H) (he : v = r) : W p l e R s m args below meth c H locs cells slots (MQ below (oQ (some (.double r)) PH A) args s cells slots A) (F0 m pc ls [.double v]) :=
  W.dret hx hb hr (fun t ht _ => ⟨by rw [he], by rw [ht]; exact hp, hS.F ht⟩) hS.2.2 hdg hlocks
end OMEAN
/-- a mean of n, of the sum x -/
def oMean (x : Int32) (n : Nat) : UInt64 := if nI n = 0 then FP.dconst0 else FP.ddiv (FP.i2d x) (FP.i2d (nI n))
