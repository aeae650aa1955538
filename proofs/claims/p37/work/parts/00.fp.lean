/-! FLOATS AND DOUBLES -/
theorem zn32 {r : UInt32} (h : FP.Core.fIsNaN r = false) : vf_n32 r := by
  have h1 := (FP.Core.notNaN_iff32 r).mp h
  have h2 : r.toNat % 2 ^ 31 ≤ 2139095040 := by
    apply Nat.le_of_not_lt
    intro g
    have := (FP.Core.isNaN_bits32 r).mpr g
    rw [h] at this
    exact absurd this (by decide)
  have e : (r &&& 0x7fffffff).toNat = r.toNat % 2 ^ 31 := by
    rw [UInt32.toNat_and]
    exact Nat.and_two_pow_sub_one_eq_mod _ 31
  exact UInt32.le_iff_toNat_le.mpr (by rw [e]; exact h2)
theorem zn64 {r : UInt64} (h : FP.Core.dIsNaN r = false) : vf_n64 r := by
  have h2 : r.toNat % 2 ^ 63 ≤ 9218868437227405312 := by
    apply Nat.le_of_not_lt
    intro g
    have := (FP.Core.isNaN_bits r).mpr g
    rw [h] at this
    exact absurd this (by decide)
  have e : (r &&& 0x7fffffffffffffff).toNat = r.toNat % 2 ^ 63 := by
    rw [UInt64.toNat_and]
    exact Nat.and_two_pow_sub_one_eq_mod _ 63
  exact UInt64.le_iff_toNat_le.mpr (by rw [e]; exact h2)
theorem znf0 {x y : Int32} (h : y ≠ 0) : FP.Core.fIsNaN (FP.Core.fdiv (FP.Core.i2f x) (FP.Core.i2f y)) = false :=
  FP.Core.fdiv_out (FP.Core.FFin.notNaN (FP.Core.i2f_fin x)) (FP.Core.i2f_fin y) (fun z => FP.Core.i2f_ne_zero h ((FP.Core.zero_bits232 _).mp z))
theorem zn_f {x y : Int32} (h : y ≠ 0) : vf_n32 (FP.fdiv (FP.i2f x) (FP.i2f y)) := zn32 (znf0 h)
theorem zn_d {x y : Int32} (h : y ≠ 0) : vf_n64 (FP.ddiv (FP.i2d x) (FP.i2d y)) := zn64 (FP.Core.ddiv_out (FP.Core.DFin.notNaN (FP.Core.i2d_fin x)) (FP.Core.i2d_fin y) (fun z => FP.Core.i2d_ne_zero h ((FP.Core.zero_bits2 _).mp z)))
theorem zn_fd {x y : Int32} (h : y ≠ 0) : vf_n64 (FP.f2d (FP.fdiv (FP.i2f x) (FP.i2f y))) := by
  rw [FP.f2d_core (znf0 h)]
  exact zn64 (FP.Core.f2d_out (znf0 h))
theorem zn64' {r : UInt64} (h : vf_n64 r) : FP.Core.dIsNaN r = false := by
  cases g : FP.Core.dIsNaN r with
  | false => rfl
  | true =>
    exfalso
    have h1 := (FP.Core.isNaN_bits r).mp g
    have h2 := UInt64.le_iff_toNat_le.mp h
    have e : (r &&& 0x7fffffffffffffff).toNat = r.toNat % 2 ^ 63 := by
      rw [UInt64.toNat_and]
      exact Nat.and_two_pow_sub_one_eq_mod _ 63
    rw [e] at h2
    have e2 : (0x7ff0000000000000 : UInt64).toNat = 9218868437227405312 := rfl
    omega
theorem zn_c {r : UInt64} (h : vf_n64 r) : Op.cmpValue (FP.dcmp r r) CmpOp.l = 0 := by
  have e : FP.dcmp r r = some .eq := FP.Core.dcmp_self ((FP.Core.notNaN_iff r).mp (zn64' h))
  rw [e]
  rfl
