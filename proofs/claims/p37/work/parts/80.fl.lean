/-! SHARES AND MEANS -/
theorem fl_sh : ∀ n, n < 9 → ¬ Op.cmpValue (FP.fcmp (FP.fdiv (FP.i2f (nI n)) (FP.i2f (nI 8))) FP.fconst0) CmpOp.l < 0 ∧ ¬ 0 < Op.cmpValue (FP.fcmp (FP.fdiv (FP.i2f (nI n)) (FP.i2f (nI 8))) FP.fconst1) CmpOp.g := by decide +kernel
theorem fl_md0 : ∀ a, a < 65 → ∀ q, q < 64 → ¬ Op.cmpValue (FP.dcmp (FP.ddiv (FP.i2d (nI (64 * a + q))) (FP.i2d (nI 8))) FP.dconst0) CmpOp.l < 0 := by decide +kernel
theorem fl_md {n : Nat} (h : n ≤ 4100) : ¬ Op.cmpValue (FP.dcmp (FP.ddiv (FP.i2d (nI n)) (FP.i2d (nI 8))) FP.dconst0) CmpOp.l < 0 := by
  have := fl_md0 (n / 64) (by omega) (n % 64) (Nat.mod_lt _ (by decide))
  rw [show 64 * (n / 64) + n % 64 = n by omega] at this
  exact this
