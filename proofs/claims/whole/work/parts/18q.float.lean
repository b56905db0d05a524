theorem nnan : NNan := by
  intro a b hb
  have hb0 : ¬ b = 0 := fun q => by
    rw [q] at hb
    exact absurd hb (by decide)
  have hz : ¬ FP.Core.DZero (FP.Core.i2d b) := fun q => FP.Core.i2d_ne_zero hb0 ((FP.Core.zero_bits2 _).mp q)
  have h : ¬ FP.Core.dIsNaN (FP.ddiv (FP.i2d a) (FP.i2d b)) = true := by
    rw [show FP.Core.dIsNaN (FP.ddiv (FP.i2d a) (FP.i2d b)) = false from FP.Core.ddiv_out (FP.Core.i2d_fin a).notNaN (FP.Core.i2d_fin b) hz]
    decide
  rw [FP.Core.isNaN_bits] at h
  unfold vf_n64
  generalize FP.ddiv (FP.i2d a) (FP.i2d b) = x at h
  rw [UInt64.le_iff_toNat_le, UInt64.toNat_and]
  show x.toNat &&& (2 ^ 63 - 1) ≤ 9218868437227405312
  rw [Nat.and_two_pow_sub_one_eq_mod]
  omega
