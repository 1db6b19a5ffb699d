/-! Floats that are numbers -/
theorem n32_of {r : UInt32} (h : Jvm.FP.Core.fIsNaN r = false) : vf_n32 r := by
  have h1 : ¬ 2139095040 < r.toNat % 2 ^ 31 := fun q => by rw [(Jvm.FP.Core.isNaN_bits32 r).mpr q] at h; cases h
  have h2 : (r &&& 0x7fffffff).toNat = r.toNat % 2 ^ 31 := by
    rw [UInt32.toNat_and]
    exact Nat.and_two_pow_sub_one_eq_mod r.toNat 31
  show r &&& 0x7fffffff ≤ 0x7f800000
  rw [UInt32.le_iff_toNat_le, h2]
  exact Nat.not_lt.mp h1
theorem fdNN {x y : Int32} (h : ¬ y = 0) : Jvm.FP.Core.fIsNaN (FP.fdiv (FP.i2f x) (FP.i2f y)) = false :=
  Jvm.FP.Core.fdiv_out (Jvm.FP.Core.i2f_fin x).notNaN (Jvm.FP.Core.i2f_fin y) (fun hz => Jvm.FP.Core.i2f_ne_zero h ((Jvm.FP.Core.zero_bits232 _).mp hz))
theorem fdN {x y : Int32} (h : ¬ y = 0) : vf_n32 (FP.fdiv (FP.i2f x) (FP.i2f y)) := n32_of (fdNN h)
