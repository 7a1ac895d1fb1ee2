/-! ===== quotients that are numbers ===== -/
theorem fl_iff32 (x : UInt32) : vf_n32 x ↔ x.toNat % 2147483648 ≤ 2139095040 := by
  unfold vf_n32
  rw [UInt32.le_iff_toNat_le, UInt32.toNat_and]
  have h1 : (0x7fffffff : UInt32).toNat = 2 ^ 31 - 1 := by decide
  have h2 : (0x7f800000 : UInt32).toNat = 2139095040 := by decide
  rw [h1, h2, Nat.and_two_pow_sub_one_eq_mod]
theorem fl_iff64 (x : UInt64) : vf_n64 x ↔ x.toNat % 9223372036854775808 ≤ 9218868437227405312 := by
  unfold vf_n64
  rw [UInt64.le_iff_toNat_le, UInt64.toNat_and]
  have h1 : (0x7fffffffffffffff : UInt64).toNat = 2 ^ 63 - 1 := by decide
  have h2 : (0x7ff0000000000000 : UInt64).toNat = 9218868437227405312 := by decide
  rw [h1, h2, Nat.and_two_pow_sub_one_eq_mod]
theorem fl_no32 {x : UInt32} : vf_n32 x ↔ FP.Core.fIsNaN x = false := by
  rw [fl_iff32, ← Bool.not_eq_true, FP.Core.isNaN_bits32]; omega
theorem fl_no64 {x : UInt64} : vf_n64 x ↔ FP.Core.dIsNaN x = false := by
  rw [fl_iff64, ← Bool.not_eq_true, FP.Core.isNaN_bits]; omega
theorem fl_div32 (t : Int32) {n : Int32} (h : n ≠ 0) : vf_n32 (FP.fdiv (FP.i2f t) (FP.i2f n)) := by
  have hf : FP.Core.fIsNaN (FP.i2f t) = false := fl_no32.mp ((fl_iff32 _).mpr (Nat.le_of_lt ((FP.Core.fin_bits32 _).mp (FP.Core.i2f_fin t))))
  exact fl_no32.mpr (FP.Core.fdiv_out hf (FP.Core.i2f_fin n) (by rw [FP.Core.zero_bits232]; exact FP.Core.i2f_ne_zero h))
theorem fl_div64 (t : Int32) {n : Int32} (h : n ≠ 0) : vf_n64 (FP.ddiv (FP.i2d t) (FP.i2d n)) := by
  have hf : FP.Core.dIsNaN (FP.i2d t) = false := fl_no64.mp ((fl_iff64 _).mpr (Nat.le_of_lt ((FP.Core.fin_bits _).mp (FP.Core.i2d_fin t))))
  exact fl_no64.mpr (FP.Core.ddiv_out hf (FP.Core.i2d_fin n) (by rw [FP.Core.zero_bits2]; exact FP.Core.i2d_ne_zero h))
theorem fl_f2d {x : UInt32} (h : vf_n32 x) : vf_n64 (FP.f2d x) := fl_no64.mpr ((show FP.Core.dIsNaN (FP.f2d x) = FP.Core.fIsNaN x from FP.f2d_nan x).trans (fl_no32.mp h))
theorem fl_self {x : UInt64} (h : vf_n64 x) : FP.dcmp x x = some .eq := FP.Core.dcmp_self (by
  rw [Ne, ← FP.Core.dIsNaN_iff, Bool.not_eq_true]; exact fl_no64.mp h)
