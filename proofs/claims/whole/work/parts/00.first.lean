/-! A name of the whole library, first of all: so a round is read over it from its first part on. -/
theorem a_first (x : Int32) {n : Int32} (h : n ≠ 0) : Jvm.Free.Fl.i2d_nz h = Jvm.Free.Fl.i2d_nz h := rfl
