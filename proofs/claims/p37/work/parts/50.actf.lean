section ZAI
variable {σ μ τ : zS}
/-! 17: drop -/
def g_17b (μ : zS) (c : Nat) (b : Bool) : zS := zpA (zpA (zpI (zpA (zpA (zpA (zpA (zpA (zpA μ 46 0 c (zA μ 47 0 c)) 48 0 c (zA μ 49 0 c)) 50 0 c (zA μ 51 0 c)) 47 0 c (zI μ 846 0)) 49 0 c (if b = true then 1 else 0)) 51 0 c (zA μ 45 0 c)) 846 0 (zI μ 846 0 + 1)) 38 0 c 111) 43 0 c (if b = true then zA μ 43 0 c + 1 else 0)
def z_17b (τ : zS) (c : Nat) (b : Bool) : zS := zpI (zpI τ 117 c (if b = true then zI τ 116 c else 0)) 116 c (if b = true then zI τ 512 0 else 0)
def s_17b (σ : zS) (c : Nat) (b : Bool) : zS := zpI (zpI (zpI (zpI σ 105 c 111) 115 c (if b = true then zI σ 115 c + 1 else 0)) 117 c (if b = true then zI σ 116 c else 0)) 116 c (if b = true then zI σ 512 0 else 0)
theorem s_17_eq (σ : zS) (c : Nat) (b : Bool) : f_X1_noteDrop (zpI σ 105 c 111) c b (zI (zpI σ 105 c 111) 512 0) = s_17b σ c b := by
  cases b <;> rfl
theorem sm_17b (h : zsim σ μ τ) (hm : ymod μ τ) (hN : zn τ 512 < 512) {c : Nat} (hc1 : c < zn μ 840) (h3 : zA μ 38 0 c = 107) (b : Bool) : zsim (s_17b (zpI σ 512 0 (zI σ 512 0 + 1)) c b) (g_17b μ c b) (z_17b (zt1 τ) c b) ∧ ymod (g_17b μ c b) (z_17b (zt1 τ) c b) := by
  obtain ⟨hn, hg, hmm, hc, he, hw, hh, hp, hr, hl, hf⟩ := id h
  obtain ⟨n1, n2, n3, n4, n5, n6, n7, n8, n9⟩ := id hn
  obtain ⟨mn, md, ms, mw, mk, mp, ml, mx, mf, mz, t0, tc, tf, tx, mb⟩ := id hm
  obtain ⟨b1, b2, b3, b4, b5⟩ := id mn
  have hb2 := b2.2
  have eN := zt1_n hm
  have hNb := zt1_b hm hN
  have hN512 := hNb.2
  have upa := zn_up t0.2.1 (by decide) (ν := g_17b μ c b) (g := 846) rfl
  have ha2 := t0.2.2.2
  have ea : (zI μ 846 0).toInt = (zn μ 846 : Int) := by rw [t0.2.1.1, nI_toInt (by omega)]
  have eT : (zI (zt1 τ) 512 0).toInt = (zn τ 512 : Int) + 1 := by
    rw [hNb.1, nI_toInt (by omega), eN]
    omega
  have gz : ∀ k d, d ≠ c → zA (g_17b μ c b) k 0 d = zA μ k 0 d := fun k d hd => by unfold g_17b; simp [zI_pI, zI_pL, zI_pA, zL_pI, zL_pL, zL_pA, zA_pI, zA_pL, zA_pA, hd]
  have gk : ∀ k, k ≠ 46 → k ≠ 48 → k ≠ 50 → k ≠ 47 → k ≠ 49 → k ≠ 51 → k ≠ 38 → k ≠ 43 → ∀ d, zA (g_17b μ c b) k 0 d = zA μ k 0 d := fun k h1 h2 h3 h4 h5 h6 h7 h8 d => by unfold g_17b; simp [zI_pI, zI_pL, zI_pA, zL_pI, zL_pL, zL_pA, zA_pI, zA_pL, zA_pA, h1, h2, h3, h4, h5, h6, h7, h8]
  have v46 : zA (g_17b μ c b) 46 0 c = zA μ 47 0 c := by unfold g_17b; simp [zI_pI, zI_pL, zI_pA, zL_pI, zL_pL, zL_pA, zA_pI, zA_pL, zA_pA]
  have v47 : zA (g_17b μ c b) 47 0 c = zI μ 846 0 := by unfold g_17b; simp [zI_pI, zI_pL, zI_pA, zL_pI, zL_pL, zL_pA, zA_pI, zA_pL, zA_pA]
  have v48 : zA (g_17b μ c b) 48 0 c = zA μ 49 0 c := by unfold g_17b; simp [zI_pI, zI_pL, zI_pA, zL_pI, zL_pL, zL_pA, zA_pI, zA_pL, zA_pA]
  have v49 : zA (g_17b μ c b) 49 0 c = if b = true then 1 else 0 := by unfold g_17b; simp [zI_pI, zI_pL, zI_pA, zL_pI, zL_pL, zL_pA, zA_pI, zA_pL, zA_pA]
  have v50 : zA (g_17b μ c b) 50 0 c = zA μ 51 0 c := by unfold g_17b; simp [zI_pI, zI_pL, zI_pA, zL_pI, zL_pL, zL_pA, zA_pI, zA_pL, zA_pA]
  have v51 : zA (g_17b μ c b) 51 0 c = zA μ 45 0 c := by unfold g_17b; simp [zI_pI, zI_pL, zI_pA, zL_pI, zL_pL, zL_pA, zA_pI, zA_pL, zA_pA]
  have v38 : zA (g_17b μ c b) 38 0 c = 111 := by unfold g_17b; simp [zI_pI, zI_pL, zI_pA, zL_pI, zL_pL, zL_pA, zA_pI, zA_pL, zA_pA]
  have v43 : zA (g_17b μ c b) 43 0 c = if b = true then zA μ 43 0 c + 1 else 0 := by unfold g_17b; simp [zI_pI, zI_pL, zI_pA, zL_pI, zL_pL, zL_pA, zA_pI, zA_pL, zA_pA]
  have t116 : zI (z_17b (zt1 τ) c b) 116 c = if b = true then zI (zt1 τ) 512 0 else 0 := by unfold z_17b; simp [zI_pI]
  have t117 : zI (z_17b (zt1 τ) c b) 117 c = if b = true then zI τ 116 c else 0 := by unfold z_17b zt1; simp [zI_pI]
  have tz : ∀ k d, d ≠ c → zI (z_17b (zt1 τ) c b) k d = zI (zt1 τ) k d := fun k d hd => by unfold z_17b; simp [zI_pI, hd]
  have tk : ∀ k, k ≠ 116 → k ≠ 117 → ∀ d, zI (z_17b (zt1 τ) c b) k d = zI (zt1 τ) k d := fun k h1 h2 d => by unfold z_17b; simp [zI_pI, h1, h2]
  refine ⟨⟨⟨n1, n2, n3, n4, n5, n6, n7, n8, ?_⟩, hg, hmm, fun d hd => ?_, he, fun d hd => ?_, fun d hd => ?_, hp, hr, hl, hf⟩, ⟨mn, md, ms_st (c := c) ms rfl (fun d hd => gz 38 d hd) (by rw [v38]; exact Or.inl rfl), fun d hd z => ?_, mk_st (c := c) mk rfl rfl (fun i => rfl) (fun d hd => gz 38 d hd) (fun z => by unfold y_ready at z; rw [v38] at z; exact absurd z (by decide)), mp, ml_st (c := c) ml (by rw [h3]; decide) rfl rfl (fun k hk i => by rcases hk with rfl | rfl | rfl | rfl | rfl <;> rfl) (fun d hd => gz 38 d hd), mx_st mx rfl (fun k hk i => by rcases hk with rfl | rfl | rfl | rfl | rfl <;> rfl), mf, mz_st (c := c) hc1 mz rfl rfl rfl (fun k hk d hd => gz k d hd) (fun k hk d hd => by rcases hk with rfl | rfl <;> rfl) (fun d hd => rfl), ⟨?_, ⟨by rw [upa.1, upa.2], by rw [upa.2]; omega⟩, by omega, ?_⟩, fun d hd => ?_, fun f hf1 => ?_, fun f d hf1 hd => ?_, ?_⟩⟩
  · show zI σ 512 0 + 1 = zI τ 512 0 + 1
    rw [n9]
  · have hd : d < zn μ 840 := hd
    have := hc d hd
    by_cases e : d = c
    · subst e
      rw [v38, v43, t116, t117]
      unfold s_17b
      obtain ⟨a1, a2, a3, a4, a5, a6, a7⟩ := this
      have e9 : zI (zt1 τ) 512 0 = zI τ 512 0 + 1 := rfl
      rw [e9, ← n9]
      cases b <;> simp [zI_pI, zI_pL, zI_pA, zL_pI, zL_pL, zL_pA, zA_pI, zA_pL, zA_pA, a2, a3, a4, a5, a6, gk 41 (by decide) (by decide) (by decide) (by decide) (by decide) (by decide) (by decide) (by decide), gk 42 (by decide) (by decide) (by decide) (by decide) (by decide) (by decide) (by decide) (by decide), gk 44 (by decide) (by decide) (by decide) (by decide) (by decide) (by decide) (by decide) (by decide)]
    · rw [gz 38 d e, gz 41 d e, gz 42 d e, gz 43 d e, gz 44 d e, tz 116 d e, tz 117 d e]
      unfold s_17b zt1
      simpa [zI_pI, zI_pL, zI_pA, zL_pI, zL_pL, zL_pA, zA_pI, zA_pL, zA_pA, e] using this
  · have hd : d < zn μ 840 := hd
    have := hw d hd
    by_cases e : d = c
    · subst e
      have w := this.2 (by rw [h3]; decide)
      rw [v38]
      exact ⟨fun z => absurd z (by decide), fun _ => w⟩
    · rw [gz 38 d e]
      exact this
  · have hd : d < zn μ 840 := hd
    have := hh d hd
    by_cases e : d = c
    · subst e
      have w := this.2 (by rw [h3]; decide)
      rw [v38]
      exact ⟨fun z => absurd z (by decide), fun _ => w⟩
    · rw [gz 38 d e]
      exact this
  · have hd : d < zn μ 840 := hd
    by_cases e : d = c
    · subst e; rw [v38] at z; exact absurd z (by decide)
    · rw [gz 38 d e] at z
      exact mw d hd z
  · exact zbd_eq (tk 512 (by decide) (by decide) 0) hNb
  · rw [upa.2, zn_eq (tk 512 (by decide) (by decide) 0), eN]; omega
  · have hd : d < zn μ 840 := hd
    have := tc d hd
    rw [upa.2, zn_eq (tk 512 (by decide) (by decide) 0), eN]
    by_cases e : d = c
    · subst e
      rw [v46, v47, v48, v49, v50, v51, t116, t117, gk 45 (by decide) (by decide) (by decide) (by decide) (by decide) (by decide) (by decide) (by decide), ea]
      unfold tC at this ⊢
      have i0 : (0 : Int32).toInt = 0 := by decide
      have i1 : (1 : Int32).toInt = 1 := by decide
      cases b
      · simp only [Bool.false_eq_true, if_false, i0, true_or, true_and]
        omega
      · simp only [if_true, i1, eT, or_true, and_true, true_and, true_iff]
        omega
    · simp only [gz _ d e, tz _ d e]
      show tC _ _ (zI τ 116 d).toInt (zI τ 117 d).toInt _ _ _ _ _ _ _
      unfold tC at this ⊢
      omega
  · have hf1 : f < zn μ 843 := hf1
    have := tf f hf1
    rw [upa.2, zn_eq (tk 512 (by decide) (by decide) 0), eN, tk 305 (by decide) (by decide), tk 306 (by decide) (by decide)]
    show tF _ _ (zI τ 305 f).toInt (zI τ 306 f).toInt (zA μ 65 0 f).toInt
    unfold tF at this ⊢
    omega
  · have hd : d < zn μ 840 := hd
    have hf1 : f < zn μ 843 := hf1
    have hX := tx f d hf1 hd
    have hF := tf f hf1
    have hC := tc d hd
    rw [tk 305 (by decide) (by decide), tk 306 (by decide) (by decide)]
    show tX (zA μ 63 0 f = nI d) (zI τ 305 f).toInt (zI τ 306 f).toInt _ _ (zA μ 65 0 f).toInt _ _ _ _ _
    unfold tX at hX ⊢
    unfold tF at hF
    unfold tC at hC
    by_cases e : d = c
    · subst e
      rw [v46, v47, v50, v51, t116, t117, gk 45 (by decide) (by decide) (by decide) (by decide) (by decide) (by decide) (by decide) (by decide), ea]
      have i0 : (0 : Int32).toInt = 0 := by decide
      cases b
      · simp only [Bool.false_eq_true, if_false, i0]
        refine ⟨fun z => absurd z (by omega), fun z => absurd z (by omega), fun own => ?_⟩
        have hX3 := hX.2.2 own
        exact ⟨hX3.1, hX3.2.1, fun z => absurd z (by omega), fun z => absurd z (by omega)⟩
      · simp only [if_true, eT]
        refine ⟨fun z => by omega, hX.1, fun own => ?_⟩
        have hX3 := hX.2.2 own
        refine ⟨hX3.1, hX3.2.1, fun z => ?_, hX3.2.2.1⟩
        have := hX3.1
        omega
    · simp only [gz _ d e, tz _ d e]
      exact hX
  · show 6 * zn μ 841 + zsmN (y_wk (g_17b μ c b)) (zn μ 840) ≤ zn (z_17b (zt1 τ) c b) 512
    rw [zn_eq (tk 512 (by decide) (by decide) 0), eN]
    exact mb_st (ν := g_17b μ c b) (c := c) hc1 mb rfl rfl (fun d hd => by unfold y_wk; rw [gz 38 d hd, gz 40 d hd]) (by unfold y_wk; rw [v38, h3]; exact Nat.zero_le _)
def g_17 (μ : zS) (c : Nat) (b : Bool) : zS := if b = true ∨ 12 ≤ zI μ 843 0 then g_17b μ c b else g_F (g_17b μ c b) c
def z_17 (μ τ : zS) (c : Nat) (b : Bool) : zS := if b = true ∨ 12 ≤ zI μ 843 0 then z_17b (zt1 τ) c b else zfT (z_17b (zt1 τ) c b) (zn μ 843)
theorem fx_17 {w1 : Int32} (h1 : y_has μ 840 w1 = true) (h2 : zA μ 38 0 w1.toNatClampNeg = 107) (b : Bool) : f_X10_drop μ w1 b = if b = true ∨ 12 ≤ zI μ 843 0 then zpI (g_17b μ w1.toNatClampNeg b) 838 0 0 else zpI (f_X10_finds (g_17b μ w1.toNatClampNeg b) w1) 838 0 0 := by
  unfold f_X10_drop
  rw [if_pos h1, if_pos h2]
  cases b
  · by_cases c1 : 12 ≤ zI μ 843 0
    · rw [if_pos (Or.inr c1)]
      refine Eq.trans (if_pos rfl) ?_
      refine Eq.trans (if_pos rfl) ?_
      refine Eq.trans (if_neg (by decide)) ?_
      refine Eq.trans (if_pos c1) ?_
      rfl
    · rw [if_neg (show ¬ ((false : Bool) = true ∨ 12 ≤ zI μ 843 0) from fun z => z.elim (fun y => absurd y (by decide)) c1)]
      refine Eq.trans (if_pos rfl) ?_
      refine Eq.trans (if_pos rfl) ?_
      refine Eq.trans (if_neg (by decide)) ?_
      refine Eq.trans (if_neg c1) ?_
      rfl
  · rw [if_pos (Or.inl rfl)]
    rfl
theorem rx_17 {w1 : Int32} (h1 : y_has μ 840 w1 = true) (h2 : zA μ 38 0 w1.toNatClampNeg = 107) (b : Bool) : r_X10_drop μ w1 b = if b = true then zA μ 43 0 w1.toNatClampNeg + 1 else 0 := by
  have e : zA (g_17b μ w1.toNatClampNeg b) 43 0 w1.toNatClampNeg = if b = true then zA μ 43 0 w1.toNatClampNeg + 1 else 0 := by unfold g_17b; simp [zI_pI, zI_pL, zI_pA, zL_pI, zL_pL, zL_pA, zA_pI, zA_pL, zA_pA]
  rw [← e]
  unfold r_X10_drop
  rw [if_pos h1, if_pos h2]
  cases b
  · by_cases c1 : 12 ≤ zI μ 843 0
    · refine Eq.trans (if_pos rfl) ?_
      refine Eq.trans (if_pos rfl) ?_
      refine Eq.trans (if_neg (by decide)) ?_
      refine Eq.trans (if_pos c1) ?_
      rfl
    · refine Eq.trans (if_pos rfl) ?_
      refine Eq.trans (if_pos rfl) ?_
      refine Eq.trans (if_neg (by decide)) ?_
      refine Eq.trans (if_neg c1) ?_
      rfl
  · rfl
theorem k_pf_17b (σ : zS) (w1 : Int32) (b : Bool) : k_pf σ (nI 17) w1 (bI b) 0 0 = f_X5_tryOut (zpI σ 512 0 (zI σ 512 0 + 1)) w1 b ∧ k_pr σ (nI 17) w1 (bI b) 0 0 = r_X5_tryOut (zpI σ 512 0 (zI σ 512 0 + 1)) w1 b := by
  rw [show nI 17 = 17 from rfl, k_pf_17, k_pr_17]
  cases b <;> exact ⟨rfl, rfl⟩
theorem ok_17 (h : zsim σ μ τ) (hm : ymod μ τ) (w1 : Int32) (b : Bool) : (f_X10_drop μ w1 b = if k_ref σ (nI 17) w1 (bI b) 0 0 = 0 then zpI (g_17 μ w1.toNatClampNeg b) 838 0 0 else zpI μ 838 0 (zkc [1, 3] (k_ref σ (nI 17) w1 (bI b) 0 0))) ∧ (k_ref σ (nI 17) w1 (bI b) 0 0 = 0 → ∃ c, c < zn μ 840 ∧ w1 = nI c ∧ zA μ 38 0 c = 107 ∧ r_X10_drop μ w1 b = k_pr σ (nI 17) w1 (bI b) 0 0) := by
  obtain ⟨hn, hg, hmm, hc, he, hw, hh, hp, hr, hl, hf⟩ := id h
  obtain ⟨n1, n2, n3, n4, n5, n6, n7, n8, n9⟩ := id hn
  obtain ⟨mn, md, ms, mw, mk, mp, ml, mx, mf, mz, t0, tc, tf, tx, mb⟩ := id hm
  obtain ⟨b1, b2, b3, b4, b5⟩ := id mn
  rw [(k_pf_17b σ w1 b).2, show nI 17 = 17 from rfl, k_ref_17]
  unfold r_X8_refusalOf_17 r_X8_ofCanopyIn
  rw [zr_has_c h hm]
  cases h1 : y_has μ 840 w1
  · refine ⟨?_, fun z => by simp at z⟩
    unfold f_X10_drop
    rw [h1]
    rfl
  · obtain ⟨c, hc1, rfl⟩ := yhas_lt b2 (by decide) h1
    have hb2 := b2.2
    have ec : (nI c).toNatClampNeg = c := nI_clamp (by omega)
    rw [ec, (hc c hc1).1]
    by_cases h3 : zA μ 38 0 c = 107
    · have h3' : zA μ 38 0 (nI c).toNatClampNeg = 107 := by rw [ec]; exact h3
      rw [if_pos rfl, if_neg (not_not_intro h3), fx_17 h1 h3' b, rx_17 h1 h3' b, if_pos rfl, ec]
      refine ⟨?_, fun _ => ⟨c, hc1, rfl, h3, ?_⟩⟩
      · unfold g_17
        by_cases c1 : b = true ∨ 12 ≤ zI μ 843 0
        · rw [if_pos c1, if_pos c1]
        · rw [if_neg c1, if_neg c1, g_F_eq (by omega)]
      · unfold r_X5_tryOut
        rw [ec, s_17_eq]
        have e115 : zI (s_17b (zpI σ 512 0 (zI σ 512 0 + 1)) c b) 115 c = if b = true then zA μ 43 0 c + 1 else 0 := by
          unfold s_17b
          simp [zI_pI, zI_pL, zI_pA, zL_pI, zL_pL, zL_pA, zA_pI, zA_pL, zA_pA, (hc c hc1).2.2.2.2.1]
        cases b
        · rw [if_neg (by decide), if_neg (by decide)]
          unfold f_X5_noteFindingIfRoom
          by_cases c1 : 12 ≤ zI (s_17b (zpI σ 512 0 (zI σ 512 0 + 1)) c false) 508 0
          · rw [if_pos c1, e115]; rfl
          · rw [if_neg c1]
            unfold f_X5_noteFinding f_X3_begin
            simp [zI_pI, zI_pL, zI_pA, zL_pI, zL_pL, zL_pA, zA_pI, zA_pL, zA_pA, e115]
        · rw [if_pos rfl, if_pos rfl, e115]; rfl
    · rw [if_pos rfl, if_pos h3]
      refine ⟨?_, fun z => absurd z (by decide)⟩
      unfold f_X10_drop
      rw [h1, ec, if_pos rfl, if_neg h3]
      rfl
theorem sm_17 (h : zsim σ μ τ) (hm : ymod μ τ) (hN : zn τ 512 < 512) {w1 : Int32} {b : Bool} (h0 : k_ref σ (nI 17) w1 (bI b) 0 0 = 0) : zsim (k_pf σ (nI 17) w1 (bI b) 0 0) (g_17 μ w1.toNatClampNeg b) (z_17 μ τ w1.toNatClampNeg b) ∧ ymod (g_17 μ w1.toNatClampNeg b) (z_17 μ τ w1.toNatClampNeg b) := by
  obtain ⟨c, hc1, rfl, h3, -⟩ := (ok_17 h hm w1 b).2 h0
  obtain ⟨hn, hg, hmm, hc, he, hw, hh, hp, hr, hl, hf⟩ := id h
  obtain ⟨n1, n2, n3, n4, n5, n6, n7, n8, n9⟩ := id hn
  obtain ⟨mn, md, ms, mw, mk, mp, ml, mx, mf, mz, t0, tc, tf, tx, mb⟩ := id hm
  obtain ⟨b1, b2, b3, b4, b5⟩ := id mn
  have hb2 := b2.2
  have eN := zt1_n hm
  have hNb := zt1_b hm hN
  have ha2 := t0.2.2.2
  rw [(k_pf_17b σ (nI c) b).1]
  unfold f_X5_tryOut g_17 z_17
  rw [nI_clamp (by omega), s_17_eq]
  obtain ⟨q1, q2⟩ := sm_17b h hm hN hc1 h3 b
  cases b
  · rw [if_neg (by decide)]
    unfold f_X5_noteFindingIfRoom
    have e508 : zI (s_17b (zpI σ 512 0 (zI σ 512 0 + 1)) c false) 508 0 = zI μ 843 0 := n5
    rw [e508]
    by_cases c1 : 12 ≤ zI μ 843 0
    · rw [if_pos c1, if_pos (Or.inr c1), if_pos (Or.inr c1)]
      exact ⟨q1, q2⟩
    · have c2 : ¬ ((false : Bool) = true ∨ 12 ≤ zI μ 843 0) := fun z => z.elim (fun y => absurd y (by decide)) c1
      rw [if_neg c1, if_neg c2, if_neg c2]
      have hlt : zn μ 843 < 12 := zr_cap2 b5 (by decide) (fun z => c1 (show (12 : Int32) ≤ zI μ 843 0 from (zr_cap (N := 12) b5 (by decide)).mpr z))
      have e5 : zn (z_17b (zt1 τ) c false) 512 = zn τ 512 + 1 := eN
      have upa := zn_up t0.2.1 (by decide) (ν := g_17b μ c false) (g := 846) rfl
      exact sm_F q1 q2 (by omega) (by rw [upa.2, e5]; omega) hc1 hlt
  · rw [if_pos rfl, if_pos (Or.inl rfl), if_pos (Or.inl rfl)]
    exact ⟨q1, q2⟩
end ZAI
