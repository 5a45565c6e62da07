/-! the mean -/
theorem oMean_n (x : Int32) {n : Int32} (h : n ≠ 0) : vf_n64 (FP.ddiv (FP.i2d x) (FP.i2d n)) := Jvm.Free.Fl.ddiv_out (Jvm.Free.Fl.i2d_fin x).noNaN (Jvm.Free.Fl.i2d_fin n) (Jvm.Free.Fl.i2d_nz h)
