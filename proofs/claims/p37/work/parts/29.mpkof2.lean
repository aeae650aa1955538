theorem pk_st {p : Nat → Bool} {n k m l9 idx : Nat} (hn : idx < zct p n) (_ : m + l9 = idx) (h : zct p (k + 1) ≤ idx) : k + 1 < n := by
  rcases Nat.lt_or_ge (k + 1) n with q | q
  · exact q
  · have := zct_mono (p := p) q
    omega
theorem pk_l9 {lf : Int32} {l9 : Nat} (h : lf = nI l9) (hp : ¬ lf ≤ 0) : 1 ≤ l9 := by
  rcases Nat.eq_zero_or_pos l9 with q | q
  · exact absurd (by rw [h, q]; decide) hp
  · exact q
theorem pk_lf {l9 : Nat} (h : 1 ≤ l9) : nI l9 - 1 = nI (l9 - 1) := by
  obtain ⟨j, rfl⟩ : ∃ j, l9 = j + 1 := ⟨l9 - 1, by omega⟩
  exact nI_pred j
theorem pk_l0 {lf : Int32} {l9 : Nat} (hl : l9 < 2 ^ 31) (h : lf = nI l9) (hp : lf ≤ 0) : l9 = 0 := by
  rw [h, show (0 : Int32) = nI 0 from rfl] at hp
  have := znle hl (by decide) hp
  omega