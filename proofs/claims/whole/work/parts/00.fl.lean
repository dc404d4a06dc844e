/-! no NaN: numbers made of ints -/
theorem fl_n32 {x : UInt32} : x &&& 0x7fffffff ≤ 0x7f800000 ↔ Jvm.FP.Core.fIsNaN x = false := by
  have h1 : (0x7fffffff : UInt32).toNat = 2 ^ 31 - 1 := by decide
  have h2 : (0x7f800000 : UInt32).toNat = 2139095040 := by decide
  rw [UInt32.le_iff_toNat_le, UInt32.toNat_and, h1, h2, Nat.and_two_pow_sub_one_eq_mod, ← Bool.not_eq_true, Jvm.FP.Core.isNaN_bits32]
  omega
theorem fl_n64 {x : UInt64} : x &&& 0x7fffffffffffffff ≤ 0x7ff0000000000000 ↔ Jvm.FP.Core.dIsNaN x = false := by
  have h1 : (0x7fffffffffffffff : UInt64).toNat = 2 ^ 63 - 1 := by decide
  have h2 : (0x7ff0000000000000 : UInt64).toNat = 9218868437227405312 := by decide
  rw [UInt64.le_iff_toNat_le, UInt64.toNat_and, h1, h2, Nat.and_two_pow_sub_one_eq_mod, ← Bool.not_eq_true, Jvm.FP.Core.isNaN_bits]
  omega
theorem fl_i2f (a : Int32) : Jvm.FP.Core.fIsNaN (Jvm.FP.i2f a) = false := by
  have := Jvm.FP.Core.i2f_mag a
  rw [← Bool.not_eq_true, Jvm.FP.Core.isNaN_bits32]
  show ¬ 2139095040 < (Jvm.FP.Core.i2f a).toNat % 2 ^ 31
  omega
theorem fl_i2d (a : Int32) : Jvm.FP.Core.dIsNaN (Jvm.FP.i2d a) = false := by
  have := Jvm.FP.Core.i2d_mag a
  rw [← Bool.not_eq_true, Jvm.FP.Core.isNaN_bits]
  show ¬ 9218868437227405312 < (Jvm.FP.Core.i2d a).toNat % 2 ^ 63
  omega
theorem fl_fdiv {a b : Int32} (h : ¬ b = 0) : FP.fdiv (FP.i2f a) (FP.i2f b) &&& 0x7fffffff ≤ 0x7f800000 :=
  fl_n32.mpr (Jvm.FP.Core.fdiv_out (fl_i2f a) (Jvm.FP.Core.i2f_fin b) (fun e => Jvm.FP.Core.i2f_ne_zero h ((Jvm.FP.Core.zero_bits232 _).mp e)))
theorem fl_ddiv {a b : Int32} (h : ¬ b = 0) : FP.ddiv (FP.i2d a) (FP.i2d b) &&& 0x7fffffffffffffff ≤ 0x7ff0000000000000 :=
  fl_n64.mpr (Jvm.FP.Core.ddiv_out (fl_i2d a) (Jvm.FP.Core.i2d_fin b) (fun e => Jvm.FP.Core.i2d_ne_zero h ((Jvm.FP.Core.zero_bits2 _).mp e)))
theorem fl_f2d {a : UInt32} (h : a &&& 0x7fffffff ≤ 0x7f800000) : FP.f2d a &&& 0x7fffffffffffffff ≤ 0x7ff0000000000000 :=
  fl_n64.mpr ((Jvm.FP.f2d_nan a).trans (fl_n32.mp h))
