/-! a first part that names what a later one (18q) takes from the wider library: so a new machine compiles the parts once, not twice -/
theorem need0 (x : Int32) : FP.l2d x.toInt64 = FP.i2d x := (FP.Core.i2d_l2d x).symm
