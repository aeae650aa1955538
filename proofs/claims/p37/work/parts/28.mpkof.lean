theorem yin_n {x : Int32} {n : Nat} (hn : n < 2 ^ 20) (h : k_in x 0 (nI n - 1) = true) : ∃ j, j < n ∧ x = nI j := by
  have h4 : (nI n - 1).toInt = (n : Int) - 1 := pk_sub_toInt (b := 1) (by omega) (by decide)
  simp only [k_in, Bool.and_eq_true, Bool.not_eq_true', decide_eq_false_iff_not] at h
  obtain ⟨h1, h2⟩ := h
  obtain ⟨j, hj, rfl⟩ := nI_of h1
  refine ⟨j, ?_, rfl⟩
  have h5 := nI_toInt (n := j) hj
  rw [Int32.lt_iff_toInt_lt] at h2
  omega
theorem zct_mono {p : Nat → Bool} : ∀ {j k : Nat}, j ≤ k → zct p j ≤ zct p k
  | j, 0, h => by rw [Nat.le_zero.mp h]; exact Nat.le_refl _
  | j, k + 1, h => by
    rcases Nat.lt_or_ge j (k + 1) with q | q
    · exact Nat.le_trans (zct_mono (Nat.le_of_lt_succ q)) (by rw [zct]; exact Nat.le_add_right _ _)
    · rw [show j = k + 1 by omega]; exact Nat.le_refl _
theorem zct_lt {p : Nat → Bool} {j k : Nat} (h : j < k) (hp : p j = true) : zct p j < zct p k := by
  have := zct_mono (p := p) (show j + 1 ≤ k from h)
  rw [zct, if_pos hp] at this
  omega
def y_num (μ : zS) (w1 w2 : Int32) : Int32 := zfst (fun i => decide (zA μ 55 0 i = w1) && decide (nI (zct (fun i => decide (zA μ 55 0 i = w1)) i) = w2)) (zn μ 841)
def y_pkr (μ : zS) (w1 w2 w3 : Int32) : Nat := if y_has μ 840 w1 = true ∧ k_in w2 0 (nI (y_pks μ w1) - 1) = true then (if w3 = 104 ∨ w3 = 100 ∨ k_in w3 48 52 = true then 0 else 2) else 1
def f_X10_packingOf (μ : zS) (w1 w2 w3 : Int32) : zS := zpI μ 838 0 (if y_pkr μ w1 w2 w3 = 0 then 0 else if y_pkr μ w1 w2 w3 = 1 then 1 else 2)
def r_X10_packingOf (μ : zS) (w1 w2 w3 : Int32) : Int32 := if y_pkr μ w1 w2 w3 = 0 then (if w3 = 104 then zA μ 56 0 (y_num μ w1 w2).toNatClampNeg else if w3 = 100 then zA μ 57 0 (y_num μ w1 w2).toNatClampNeg else zA μ 58 0 (5 * y_num μ w1 w2 + w3 - 48).toNatClampNeg) else 0
theorem y_num_at {μ : zS} {w1 w2 : Int32} {k : Nat} (hk : k < zn μ 841) (h86 : zn μ 841 ≤ 86) (hp : zA μ 55 0 k = w1) (hw : w2 = nI (zct (fun i => decide (zA μ 55 0 i = w1)) k)) : y_num μ w1 w2 = nI k := by
  have hz := zct_le (fun i => decide (zA μ 55 0 i = w1)) k
  refine zfst_at (by omega) (by simp [hp, hw]) (fun j hj => ?_) hk
  by_cases g : zA μ 55 0 j = w1
  · have := zct_lt (p := (fun i => decide (zA μ 55 0 i = w1))) hj (by simp [g])
    have hne : ¬ nI (zct (fun i => decide (zA μ 55 0 i = w1)) j) = w2 := fun z => by
      rw [hw] at z
      have z2 := congrArg Int32.toNatClampNeg z
      rw [nI_clamp (by omega), nI_clamp (by omega)] at z2
      omega
    simp [hne]
  · simp [g]
theorem y_w3 {w3 : Int32} (h : k_in w3 48 52 = true) {k : Nat} (hk : k < 120) : vp_in (5 * nI k + w3 - 48) 600 := by
  simp only [k_in, Bool.and_eq_true, Bool.not_eq_true', decide_eq_false_iff_not] at h
  obtain ⟨j, hj, rfl⟩ := nI_of (x := w3) (fun z => h.1 (Int32.lt_trans z (by decide)))
  have h1 := h.1; have h2 := h.2
  rw [Int32.lt_iff_toInt_lt, nI_toInt hj] at h1 h2
  have e48 : (48 : Int32).toInt = 48 := by decide
  have e52 : (52 : Int32).toInt = 52 := by decide
  rw [e48] at h1; rw [e52] at h2
  have e : nI (5 * k + j) - nI 48 = nI (5 * k + j - 48) := Int32.toInt_inj.mp (by rw [pk_sub_toInt (by omega) (by decide), nI_toInt (by omega)]; omega)
  rw [nI_m5, nI_add, show (48 : Int32) = nI 48 from rfl, e]
  exact vp_in_nI (by omega) (by decide)
