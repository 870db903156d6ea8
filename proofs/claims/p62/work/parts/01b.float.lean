/-! ===== quotients of whole numbers are numbers (ahead of all, so that the rounds read the whole library from the start) ===== -/
theorem n64_of {r : UInt64} (h : FP.Core.dIsNaN r = false) : r &&& 0x7fffffffffffffff ≤ 0x7ff0000000000000 := by
  have h2 : ¬ 9218868437227405312 < r.toNat % 2 ^ 63 := fun h9 => by
    rw [(FP.Core.isNaN_bits r).mpr h9] at h; cases h
  rw [UInt64.le_iff_toNat_le, UInt64.toNat_and]
  show r.toNat &&& (2 ^ 63 - 1) ≤ 9218868437227405312
  rw [Nat.and_two_pow_sub_one_eq_mod]
  omega
theorem n32_of {r : UInt32} (h : FP.Core.fIsNaN r = false) : r &&& 0x7fffffff ≤ 0x7f800000 := by
  have h2 : ¬ 2139095040 < r.toNat % 2 ^ 31 := fun h9 => by
    rw [(FP.Core.isNaN_bits32 r).mpr h9] at h; cases h
  rw [UInt32.le_iff_toNat_le, UInt32.toNat_and]
  show r.toNat &&& (2 ^ 31 - 1) ≤ 2139095040
  rw [Nat.and_two_pow_sub_one_eq_mod]
  omega
theorem ddiv_num (s : Int32) {n : Int32} (hn : n ≠ 0) : FP.ddiv (FP.i2d s) (FP.i2d n) &&& 0x7fffffffffffffff ≤ 0x7ff0000000000000 :=
  n64_of (FP.Core.ddiv_out (FP.Core.i2d_fin s).notNaN (FP.Core.i2d_fin n) (fun h => FP.Core.i2d_ne_zero hn ((FP.Core.zero_bits2 _).mp h)))
theorem fdiv_num (s : Int32) {n : Int32} (hn : n ≠ 0) : FP.fdiv (FP.i2f s) (FP.i2f n) &&& 0x7fffffff ≤ 0x7f800000 :=
  n32_of (FP.Core.fdiv_out (FP.Core.i2f_fin s).notNaN (FP.Core.i2f_fin n) (fun h => FP.Core.i2f_ne_zero hn ((FP.Core.zero_bits232 _).mp h)))
theorem dcmp_num {r : UInt64} (h : FP.Core.dIsNaN r = false) : cmpValue (FP.dcmp r r) .l = 0 := by
  have : FP.dcmp r r = some .eq := FP.Core.dcmp_self ((FP.Core.notNaN_iff r).mp h)
  rw [this]; rfl
