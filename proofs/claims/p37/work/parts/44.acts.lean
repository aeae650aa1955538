/-! THE ACTS, ONE BY ONE: what an act that is let pass does on both sides -/
def zt1 (τ : zS) : zS := zpI τ 512 0 (zI τ 512 0 + 1)
theorem yhas_lt {μ : zS} {f N : Nat} {x : Int32} (hb : zbd μ f N) (hN : N < 2 ^ 20) (h : y_has μ f x = true) : ∃ j, j < zn μ f ∧ x = nI j := by
  unfold y_has at h
  rw [hb.1] at h
  exact yin_n (by have := hb.2; omega) h
theorem zn_up {μ : zS} {f N : Nat} (hb : zbd μ f N) (hN : N < 2 ^ 20) {ν : zS} {g : Nat} (e : zI ν g 0 = zI μ f 0 + 1) : zI ν g 0 = nI (zn μ f + 1) ∧ zn ν g = zn μ f + 1 := by
  have e2 : zI ν g 0 = nI (zn μ f + 1) := by rw [e, hb.1, nI_1]
  refine ⟨e2, ?_⟩
  have := hb.2
  unfold zn at this ⊢
  rw [e2, nI_clamp (by unfold zn; omega)]
  rfl
section ZAC
variable {σ μ τ : zS}
/-- the model's note of a refusal changes nothing that counts -/
theorem zsim_th (h : zsim σ μ τ) (v : Int32) : zsim σ (zpI μ 838 0 v) τ := h
theorem ymod_th (h : ymod μ τ) (v : Int32) : ymod (zpI μ 838 0 v) τ := h
theorem zt1_n (h : ymod μ τ) : zn (zt1 τ) 512 = zn τ 512 + 1 := (zn_up h.2.2.2.2.2.2.2.2.2.2.1.1 (by decide) (ν := zt1 τ) (g := 512) rfl).2
theorem zt1_b (h : ymod μ τ) (hN : zn τ 512 < 512) : zbd (zt1 τ) 512 512 := by
  have := zn_up h.2.2.2.2.2.2.2.2.2.2.1.1 (by decide) (ν := zt1 τ) (g := 512) rfl
  exact ⟨by rw [this.1, this.2], by rw [this.2]; omega⟩
/-- an act that leaves stamps and their witnesses alone -/
theorem ymod_tick {ν : zS} (h : ymod μ τ) (hN : zn τ 512 < 512) (h1 : ym_n ν) (h2 : ym_d ν) (h3 : ym_s ν) (h4 : ym_w ν) (h5 : ym_k ν) (h6 : ym_p ν) (h7 : ym_l ν) (h8 : ym_x ν) (h9 : ym_f ν) (h10 : ym_z ν)
    (e1 : zn ν 840 = zn μ 840) (e2 : zn ν 843 = zn μ 843) (e3 : ∀ k, k = 45 ∨ k = 46 ∨ k = 47 ∨ k = 48 ∨ k = 49 ∨ k = 50 ∨ k = 51 ∨ k = 63 ∨ k = 65 → ∀ c, zA ν k 0 c = zA μ k 0 c) (e4 : zI ν 846 0 = zI μ 846 0)
    (hb : 6 * zn ν 841 + zsmN (y_wk ν) (zn ν 840) ≤ zn τ 512 + 1) : ymod ν (zt1 τ) := by
  obtain ⟨-, -, -, -, -, -, -, -, -, -, t0, tc, tf, tx, -⟩ := id h
  have eN := zt1_n h
  have ea : zn ν 846 = zn μ 846 := zn_eq e4
  refine ⟨h1, h2, h3, h4, h5, h6, h7, h8, h9, h10, ⟨zt1_b h hN, zbd_eq e4 t0.2.1, by omega, by rw [ea, eN]; have := t0.2.2.2; omega⟩, fun c hc => ?_, fun f hf => ?_, fun f c hf hc => ?_, ?_⟩
  · rw [e1] at hc
    have := tc c hc
    rw [eN, ea, e3 48 (by simp), e3 49 (by simp), e3 46 (by simp), e3 47 (by simp), e3 45 (by simp), e3 50 (by simp), e3 51 (by simp)]
    show tC _ _ (zI τ 116 c).toInt (zI τ 117 c).toInt _ _ _ _ _ _ _
    unfold tC at this ⊢
    omega
  · rw [e2] at hf
    have := tf f hf
    rw [eN, ea, e3 65 (by simp)]
    show tF _ _ (zI τ 305 f).toInt (zI τ 306 f).toInt _
    unfold tF at this ⊢
    omega
  · rw [e2] at hf
    rw [e1] at hc
    have := tx f c hf hc
    rw [e3 63 (by simp), e3 65 (by simp), e3 46 (by simp), e3 47 (by simp), e3 45 (by simp), e3 50 (by simp), e3 51 (by simp)]
    exact this
  · show 6 * zn ν 841 + _ ≤ zn (zt1 τ) 512
    rw [eN]
    exact hb
/-! 3: setPeriod -/
def g_3 (μ : zS) (w1 : Int32) : zS := zpI μ 845 0 w1
theorem fe_3 (w1 : Int32) : f_X10_setPeriod μ w1 = if k_ref σ (nI 3) w1 0 0 0 = 0 then zpI (g_3 μ w1) 838 0 0 else zpI μ 838 0 (zkc [2] (k_ref σ (nI 3) w1 0 0 0)) := by
  rw [show nI 3 = 3 from rfl, k_ref_3]
  unfold r_X8_refusalOf_3 f_X10_setPeriod
  cases k_in w1 1 999 <;> rfl
theorem re_3 (h : zsim σ μ τ) {w1 : Int32} (h0 : k_ref σ (nI 3) w1 0 0 0 = 0) : r_X10_setPeriod μ w1 = k_pr σ (nI 3) w1 0 0 0 := by
  rw [show nI 3 = 3 from rfl, k_ref_3] at h0
  rw [show nI 3 = 3 from rfl, k_pr_3]
  unfold r_X8_refusalOf_3 at h0
  unfold r_X10_setPeriod
  cases hk : k_in w1 1 999
  · rw [hk] at h0; exact absurd h0 (by decide)
  · exact h.1.2.2.2.2.2.2.1.symm
theorem sm_3 (h : zsim σ μ τ) (hm : ymod μ τ) (hN : zn τ 512 < 512) {w1 : Int32} (h0 : k_ref σ (nI 3) w1 0 0 0 = 0) : zsim (k_pf σ (nI 3) w1 0 0 0) (g_3 μ w1) (zt1 τ) ∧ ymod (g_3 μ w1) (zt1 τ) := by
  rw [show nI 3 = 3 from rfl, k_ref_3] at h0
  rw [show nI 3 = 3 from rfl, k_pf_3]
  unfold r_X8_refusalOf_3 at h0
  have hk : k_in w1 1 999 = true := by
    cases hk : k_in w1 1 999
    · rw [hk] at h0; exact absurd h0 (by decide)
    · rfl
  obtain ⟨n, -, -, -, -, -, -, -, -⟩ := id h.1
  refine ⟨⟨⟨h.1.1, h.1.2.1, h.1.2.2.1, h.1.2.2.2.1, h.1.2.2.2.2.1, h.1.2.2.2.2.2.1, rfl, h.1.2.2.2.2.2.2.2.1, ?_⟩, h.2⟩, ?_⟩
  · show zI σ 512 0 + 1 = zI τ 512 0 + 1
    rw [h.1.2.2.2.2.2.2.2.2]
  · refine ymod_tick hm hN hm.1 ⟨hm.2.1.1, ?_⟩ hm.2.2.1 hm.2.2.2.1 hm.2.2.2.2.1 hm.2.2.2.2.2.1 hm.2.2.2.2.2.2.1 hm.2.2.2.2.2.2.2.1 hm.2.2.2.2.2.2.2.2.1 hm.2.2.2.2.2.2.2.2.2.1 rfl rfl (fun k hk c => rfl) rfl ?_
    · unfold k_in at hk
      simp only [Bool.and_eq_true, Bool.not_eq_true', decide_eq_false_iff_not] at hk
      obtain ⟨j, hj, rfl⟩ := nI_of (fun z => hk.1 (Int32.lt_trans z (by decide)))
      exact ⟨j, by
        have := hk.2
        rw [show (999 : Int32) = nI 999 from rfl, nI_ltI (by omega) (by omega)] at this
        omega, rfl⟩
    · have := hm.2.2.2.2.2.2.2.2.2.2.2.2.2.2
      exact Nat.le_succ_of_le this
end ZAC
