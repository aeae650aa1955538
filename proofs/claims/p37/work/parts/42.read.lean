/-! WHAT BOTH ANSWER ALIKE -/
theorem zsubI {x y : Int32} (h1 : -1073741824 ≤ x.toInt) (h2 : x.toInt ≤ 1073741823) (h3 : -1073741824 ≤ y.toInt) (h4 : y.toInt ≤ 1073741823) : (x - y).toInt = x.toInt - y.toInt := by
  rw [Int32.toInt_sub]
  unfold Int.bmod
  dsimp only
  have e : ((2 ^ 32 : Nat) : Int) = 4294967296 := by decide
  rw [e]
  generalize x.toInt = a at *
  generalize y.toInt = b at *
  split <;> omega
theorem nI_subI {a b : Nat} (ha : a < 2 ^ 30) (hb : b < 2 ^ 30) : (nI a - nI b).toInt = (a : Int) - (b : Int) := by
  rw [zsubI (by rw [nI_toInt (by omega)]; omega) (by rw [nI_toInt (by omega)]; omega) (by rw [nI_toInt (by omega)]; omega) (by rw [nI_toInt (by omega)]; omega), nI_toInt (by omega), nI_toInt (by omega)]
theorem nI_ne_m1 {i : Nat} (h : i < 2 ^ 31) : ¬ nI i = -1 := fun z => by
  have := congrArg Int32.toInt z
  rw [nI_toInt h] at this
  have e : (-1 : Int32).toInt = -1 := by decide
  omega
theorem nI_inj' {a b : Nat} (ha : a < 2 ^ 31) (hb : b < 2 ^ 31) (h : nI a = nI b) : a = b := by
  have := congrArg Int32.toInt h
  rw [nI_toInt ha, nI_toInt hb] at this
  omega
theorem znotle (a b : Int32) : (!decide (a ≤ b)) = decide (b < a) := by
  by_cases h : a ≤ b
  · rw [decide_eq_true h, decide_eq_false (Int32.not_lt.mpr h)]; rfl
  · rw [decide_eq_false h, decide_eq_true (Int32.not_le.mp h)]; rfl
section ZRD
variable {σ μ τ : zS}
theorem zr_nc (h : zsim σ μ τ) : zn σ 506 = zn μ 840 := zn_eq h.1.2.1
theorem zr_np (h : zsim σ μ τ) : zn σ 0 = zn μ 841 := zn_eq h.1.2.2.1
theorem zr_nf (h : zsim σ μ τ) : zn σ 508 = zn μ 843 := zn_eq h.1.2.2.2.2.1
theorem zr_has_r (h : zsim σ μ τ) (hm : ymod μ τ) (x : Int32) : k_has σ 505 x = y_has μ 839 x := kyhas hm.1.1 (by decide) h.1.1
theorem zr_has_c (h : zsim σ μ τ) (hm : ymod μ τ) (x : Int32) : k_has σ 506 x = y_has μ 840 x := kyhas hm.1.2.1 (by decide) h.1.2.1
theorem zr_has_p (h : zsim σ μ τ) (hm : ymod μ τ) (x : Int32) : k_has σ 0 x = y_has μ 841 x := kyhas hm.1.2.2.1 (by decide) h.1.2.2.1
theorem zr_has_l (h : zsim σ μ τ) (hm : ymod μ τ) (x : Int32) : k_has σ 507 x = y_has μ 842 x := kyhas hm.1.2.2.2.1 (by decide) h.1.2.2.2.1
theorem zr_has_f (h : zsim σ μ τ) (hm : ymod μ τ) (x : Int32) : k_has σ 508 x = y_has μ 843 x := kyhas hm.1.2.2.2.2 (by decide) h.1.2.2.2.2.1
theorem zhas_nI {f N i : Nat} (hb : zbd σ f N) (hN : N < 2 ^ 31) (hi : i < zn σ f) : k_has σ f (nI i) = true := by
  obtain ⟨h1, h2⟩ := hb
  unfold k_has
  rw [h1, decide_eq_false (nI_pos (by omega)), decide_eq_false (fun z => absurd ((nI_leI (by omega) (by omega)).mp z) (by omega))]
  rfl
theorem zr_may (h : zsim σ μ τ) {g : Nat} (hg : g < zn μ 839) (w : Int32) : k_may σ g w (zI σ 509 0) = y_may μ g w := by
  unfold k_may y_may
  rw [(h.2.1 g hg).1, (h.2.1 g hg).2, h.1.2.2.2.2.2.1, Bool.and_comm]
theorem zr_left (h : zsim σ μ τ) (hm : ymod μ τ) {c i : Nat} (hc : c < zn μ 840) (hi : i < zn μ 841) (e : zA μ 41 0 c = nI i) : ∃ d p q : Nat, d ≤ 9999 ∧ p ≤ 999 ∧ q ≤ 9999 ∧ zI μ 844 0 = nI d ∧ zI μ 845 0 = nI p ∧ zA μ 57 0 i = nI q ∧ (k_left σ c).toInt = (p : Int) - ((d : Int) - (q : Int)) := by
  obtain ⟨⟨d, hd, e1⟩, p, hp, e2⟩ := hm.2.1
  obtain ⟨q, hq, e3⟩ := (hm.2.2.2.2.2.1 i hi).2.2.1
  refine ⟨d, p, q, hd, hp, hq, e1, e2, e3, ?_⟩
  have e4 : zI σ 110 c = nI i := (h.2.2.2.1 c hc).2.1.trans e
  have hb : zbd σ 0 86 := zbd_eq h.1.2.2.1 hm.1.2.2.1
  have e5 := (h.2.2.2.2.2.2.2.1 i hi).2.2
  have hb2 := hb.2
  have e0 := zr_np h
  unfold k_left
  rw [e4, zhas_nI hb (by decide) (by omega), if_pos rfl, nI_clamp (by omega), e5, e3, h.1.2.2.2.2.2.1, h.1.2.2.2.2.2.2.1, e1, e2]
  rw [zsubI (by rw [nI_toInt (by omega)]; omega) (by rw [nI_toInt (by omega)]; omega) (by rw [nI_subI (by omega) (by omega)]; omega) (by rw [nI_subI (by omega) (by omega)]; omega), nI_toInt (by omega), nI_subI (by omega) (by omega)]
theorem zr_ready (hm : ymod μ τ) {c : Nat} (hc : c < zn μ 840) : y_ready μ c = (!decide (zA μ 38 0 c = 111) && !decide (zA μ 38 0 c = 112)) := by
  unfold y_ready
  rcases hm.2.2.1 c hc with e | e | e | e | e <;> rw [e] <;> decide
theorem zr_old (h : zsim σ μ τ) (hm : ymod μ τ) {c : Nat} (hc : c < zn μ 840) : k_old σ c = y_old μ c := by
  have m := h.2.2.1 c hc
  unfold k_old y_old
  rw [znotle, m.1, m.2.2.2.1, m.2.2.2.2, (h.2.2.2.1 c hc).1, h.1.2.2.2.2.2.1, ← zr_ready hm hc]
  congr 1
  cases hr : y_ready μ c
  · rw [Bool.and_false, Bool.false_and, Bool.false_and]
  · obtain ⟨i, hi, e⟩ := (hm.2.2.2.2.1 c hc).2 hr
    obtain ⟨d, p, q, hd, hp, hq, e1, e2, e3, e4⟩ := zr_left h hm hc hi e
    have hb := hm.1.2.2.1.2
    congr 1
    rw [znotle, e1, e2, e, nI_clamp (by omega), e3]
    apply decide_eq_decide.mpr
    rw [Int32.lt_iff_toInt_lt, Int32.lt_iff_toInt_lt, e4, nI_subI (by omega) (by omega), nI_toInt (by omega)]
    have e0 : (0 : Int32).toInt = 0 := by decide
    rw [e0]
    omega
theorem zr_from (h : zsim σ μ τ) {f c : Nat} (hf : f < zn μ 843) : k_from σ f c = if zA μ 63 0 f = nI c then zI τ 306 f else zI τ 305 f := by
  have m := h.2.2.2.2.2.2.2.2.2.2 f hf
  unfold k_from
  rw [m.1, m.2.2.2.2.2.1, m.2.2.2.2.2.2]
theorem zdec (a b : Int32) : decide (a = b) = decide (a.toInt = b.toInt) := decide_eq_decide.mpr ⟨fun h => by rw [h], fun h => Int32.toInt_inj.mp h⟩
theorem zr_free (h : zsim σ μ τ) (hm : ymod μ τ) {f c : Nat} (hf : f < zn μ 843) (hc : c < zn μ 840) : k_free σ f c = y_free μ f c := by
  obtain ⟨-, -, -, -, -, -, -, -, -, -, -, tc, tf, tx, -⟩ := hm
  have hC := tc c hc
  have hF := tf f hf
  have hX := tx f c hf hc
  have e117 := (h.2.2.2.1 c hc).2.2.2.2.2.2
  unfold k_free y_free
  rw [zr_from h hf, e117, znotle, znotle]
  rw [Bool.eq_iff_iff]
  simp only [Bool.and_eq_true, Bool.or_eq_true, Bool.not_eq_true', decide_eq_true_eq, decide_eq_false_iff_not, Int32.lt_iff_toInt_lt]
  have q1 : (zA μ 48 0 c = 1) ↔ (zA μ 48 0 c).toInt = 1 := ⟨fun z => by rw [z]; decide, fun z => Int32.toInt_inj.mp (by rw [z]; decide)⟩
  have q2 : (zA μ 49 0 c = 1) ↔ (zA μ 49 0 c).toInt = 1 := ⟨fun z => by rw [z]; decide, fun z => Int32.toInt_inj.mp (by rw [z]; decide)⟩
  rw [q1, q2]
  have e0 : (0 : Int32).toInt = 0 := by decide
  rw [e0]
  unfold tC at hC
  unfold tF at hF
  unfold tX at hX
  by_cases own : zA μ 63 0 f = nI c
  · rw [if_pos own]
    have hX2 := hX.2.2 own
    simp only [own, not_true_eq_false, false_or]
    omega
  · rw [if_neg own]
    simp only [own, not_false_eq_true, true_or, and_true]
    omega
theorem zr_free6 (h : zsim σ μ τ) (hm : ymod μ τ) {k : Nat} (hk : k < 6) : k_free6 σ (nI k) = !y_used μ (nI k) := by
  have key : k_free6 σ (nI k) = true ↔ ¬ y_used μ (nI k) = true := by
    unfold y_used
    rw [zany_iff]
    unfold k_free6
    rw [zr_nc h]
    constructor
    · rintro ha ⟨c, hc, e⟩
      simp only [Bool.and_eq_true, decide_eq_true_eq] at e
      have w := ((h.2.2.2.2.2.1 c hc).1 e.1).1
      have : zall (fun c => !decide (zI σ 106 c = nI k)) (zn μ 840) = false := zall_no hc (by simp only [w, e.2, decide_true, Bool.not_true])
      rw [ha] at this
      exact absurd this (by decide)
    · intro hn
      rw [zall_congr (q := fun _ => true)]
      · generalize zn μ 840 = n
        induction n with
        | zero => rfl
        | succ n ih => rw [zall, ih]; rfl
      · intro c hc
        have w := h.2.2.2.2.2.1 c hc
        by_cases e : zA μ 38 0 c = 112
        · have e2 : ¬ zA μ 39 0 c = nI k := fun z => hn ⟨c, hc, by simp only [e, z, decide_true, Bool.and_self]⟩
          simp only [(w.1 e).1, e2, decide_false, Bool.not_false]
        · have e2 : ¬ (-1 : Int32) = nI k := fun z => nI_ne_m1 (by omega) z.symm
          simp only [(w.2 e).1, e2, decide_false, Bool.not_false]
  cases h1 : k_free6 σ (nI k) <;> cases h2 : y_used μ (nI k) <;> simp_all
end ZRD
