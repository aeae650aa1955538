section ZAH
variable {σ μ τ : zS}
theorem yhas_nR (hm : ymod μ τ) {c : Nat} (hc : c < zn μ 839) : y_has μ 839 (nI c) = true := by
  have hb := hm.1.1
  have h2 := hb.2
  have := kyhas (σ := μ) (μ := μ) (g := 839) (x := nI c) hb (by decide) rfl
  rw [← this]
  exact zhas_nI hb (by decide) hc
/-! 16: repair -/
def g_16 (μ : zS) (c : Nat) : zS := zpA (zpI (zpA μ 45 0 c (zI μ 846 0)) 846 0 (zI μ 846 0 + 1)) 44 0 c (zA μ 44 0 c + 1)
def zrT (μ τ : zS) (c : Nat) : zS := (fun g j => if g = 306 ∧ j < zn μ 843 ∧ zA μ 63 0 j = nI c ∧ zI τ 306 j = 0 then zI τ 512 0 else zI τ g j, τ.2.1, τ.2.2)
theorem zrT_I (μ τ : zS) (c g j : Nat) : zI (zrT μ τ c) g j = if g = 306 ∧ j < zn μ 843 ∧ zA μ 63 0 j = nI c ∧ zI τ 306 j = 0 then zI τ 512 0 else zI τ g j := rfl
theorem k_mend_306 (σ : zS) (x : Int32) (i : Nat) : ∀ n, zI (k_mend σ x n) 306 i = if i < n ∧ zI σ 300 i = x ∧ zI σ 306 i = 0 then zI σ 512 0 else zI σ 306 i
  | 0 => by rw [k_mend, if_neg (fun z => absurd z.1 (Nat.not_lt_zero _))]
  | n + 1 => by
    have ih := k_mend_306 σ x i n
    have ihn := k_mend_306 σ x n n
    rw [if_neg (fun z => absurd z.1 (Nat.lt_irrefl _))] at ihn
    rw [k_mend, k_mend_I σ x 300 n (by decide), k_mend_I σ x 512 0 (by decide), ihn]
    by_cases c1 : zI σ 300 n = x
    · rw [if_pos c1]
      by_cases c2 : zI σ 306 n = 0
      · rw [if_pos c2, zI_pI]
        by_cases e : i = n
        · subst e
          rw [if_pos ⟨rfl, rfl⟩, if_pos ⟨Nat.lt_succ_self _, c1, c2⟩]
        · rw [if_neg (fun z => e z.2), ih]
          by_cases c3 : i < n ∧ zI σ 300 i = x ∧ zI σ 306 i = 0
          · rw [if_pos c3, if_pos ⟨by omega, c3.2⟩]
          · rw [if_neg c3, if_neg (fun z => c3 ⟨by omega, z.2⟩)]
      · rw [if_neg c2, ih]
        by_cases c3 : i < n ∧ zI σ 300 i = x ∧ zI σ 306 i = 0
        · rw [if_pos c3, if_pos ⟨by omega, c3.2⟩]
        · rw [if_neg c3, if_neg (fun z => c3 ⟨by rcases Nat.lt_succ_iff_lt_or_eq.mp z.1 with q | q; exact q; exact absurd (by rw [← q]; exact z.2.2) c2, z.2⟩)]
    · rw [if_neg c1, ih]
      by_cases c3 : i < n ∧ zI σ 300 i = x ∧ zI σ 306 i = 0
      · rw [if_pos c3, if_pos ⟨by omega, c3.2⟩]
      · rw [if_neg c3, if_neg (fun z => c3 ⟨by rcases Nat.lt_succ_iff_lt_or_eq.mp z.1 with q | q; exact q; exact absurd (by rw [← q]; exact z.2.1) c1, z.2⟩)]
theorem k_mend_L (σ : zS) (x : Int32) (f i : Nat) : ∀ n, zL (k_mend σ x n) f i = zL σ f i
  | 0 => rfl
  | n + 1 => by
    rw [k_mend]
    split
    · split
      · exact k_mend_L σ x f i n
      · exact k_mend_L σ x f i n
    · exact k_mend_L σ x f i n
theorem k_mend_A (σ : zS) (x : Int32) (f i j : Nat) : ∀ n, zA (k_mend σ x n) f i j = zA σ f i j
  | 0 => rfl
  | n + 1 => by
    rw [k_mend]
    split
    · split
      · exact k_mend_A σ x f i j n
      · exact k_mend_A σ x f i j n
    · exact k_mend_A σ x f i j n
theorem ok_16 (h : zsim σ μ τ) (hm : ymod μ τ) (w1 w2 : Int32) : (f_X10_repair μ w1 w2 = if k_ref σ (nI 16) w1 w2 0 0 = 0 then zpI (g_16 μ w1.toNatClampNeg) 838 0 0 else zpI μ 838 0 (zkc [1, 3, 2] (k_ref σ (nI 16) w1 w2 0 0))) ∧ (k_ref σ (nI 16) w1 w2 0 0 = 0 → ∃ c, c < zn μ 840 ∧ w1 = nI c ∧ r_X10_repair μ w1 w2 = k_pr σ (nI 16) w1 w2 0 0) := by
  obtain ⟨hn, hg, hmm, hc, he, hw, hh, hp, hr, hl, hf⟩ := id h
  obtain ⟨n1, n2, n3, n4, n5, n6, n7, n8, n9⟩ := id hn
  obtain ⟨mn, md, ms, mw, mk, mp, ml, mx, mf, mz, t0, tc, tf, tx, mb⟩ := id hm
  obtain ⟨b1, b2, b3, b4, b5⟩ := id mn
  rw [show nI 16 = 16 from rfl, k_ref_16, k_pr_16]
  unfold r_X8_refusalOf_16 r_X8_ofRepair f_X10_repair r_X10_repair
  rw [zr_has_c h hm, zr_has_r h hm]
  cases h1 : y_has μ 840 w1
  · exact ⟨rfl, fun z => by simp at z⟩
  · cases h2 : y_has μ 839 w2
    · exact ⟨rfl, fun z => by simp at z⟩
    · obtain ⟨c, hc1, rfl⟩ := yhas_lt b2 (by decide) h1
      obtain ⟨r, hr1, rfl⟩ := yhas_lt b1 (by decide) h2
      have := b2.2
      have := b1.2
      rw [nI_clamp (by omega), nI_clamp (by omega), (hc c hc1).1, zr_may h hr1]
      by_cases c1 : zA μ 38 0 c = 111
      · simp only [c1, if_true, if_false, Bool.true_eq_false]
        cases h3 : y_may μ r 5
        · exact ⟨rfl, fun z => by simp at z⟩
        · refine ⟨?_, fun _ => ⟨c, hc1, rfl, ?_⟩⟩
          · rfl
          · show zA (zpA (zpI (zpA μ 45 0 c (zI μ 846 0)) 846 0 ((zI (zpA μ 45 0 c (zI μ 846 0)) 846 0) + 1)) 44 0 c ((zA (zpI (zpA μ 45 0 c (zI μ 846 0)) 846 0 ((zI (zpA μ 45 0 c (zI μ 846 0)) 846 0) + 1)) 44 0 c) + 1)) 44 0 c = r_X5_mend (zpI σ 512 0 (zI σ 512 0 + 1)) (nI c)
            unfold r_X5_mend
            rw [nI_clamp (by omega)]
            simp [zI_pI, zI_pL, zI_pA, zL_pI, zL_pL, zL_pA, zA_pI, zA_pL, zA_pA, (hc c hc1).2.2.2.1]
      · simp only [c1, if_true, if_false, Bool.true_eq_false]
        exact ⟨rfl, fun z => absurd z (by decide)⟩
theorem sm_16 (h : zsim σ μ τ) (hm : ymod μ τ) (hN : zn τ 512 < 512) {w1 w2 : Int32} (h0 : k_ref σ (nI 16) w1 w2 0 0 = 0) : zsim (k_pf σ (nI 16) w1 w2 0 0) (g_16 μ w1.toNatClampNeg) (zrT μ (zt1 τ) w1.toNatClampNeg) ∧ ymod (g_16 μ w1.toNatClampNeg) (zrT μ (zt1 τ) w1.toNatClampNeg) := by
  obtain ⟨c, hc1, rfl, -⟩ := (ok_16 h hm w1 w2).2 h0
  obtain ⟨hn, hg, hmm, hc, he, hw, hh, hp, hr, hl, hf⟩ := id h
  obtain ⟨n1, n2, n3, n4, n5, n6, n7, n8, n9⟩ := id hn
  obtain ⟨mn, md, ms, mw, mk, mp, ml, mx, mf, mz, t0, tc, tf, tx, mb⟩ := id hm
  obtain ⟨b1, b2, b3, b4, b5⟩ := id mn
  have hb2 := b2.2
  have eN := zt1_n hm
  have hNb := zt1_b hm hN
  have hN512 := hNb.2
  have upa := zn_up t0.2.1 (by decide) (ν := g_16 μ c) (g := 846) rfl
  have ha2 := t0.2.2.2
  have eF : zn (zpI σ 512 0 (zI σ 512 0 + 1)) 508 = zn μ 843 := zn_eq n5
  have e512 : zI (zpI σ 512 0 (zI σ 512 0 + 1)) 512 0 = zI (zt1 τ) 512 0 := by
    show zI σ 512 0 + 1 = zI τ 512 0 + 1
    rw [n9]
  have eT : (zI (zt1 τ) 512 0).toInt = (zn τ 512 : Int) + 1 := by
    rw [hNb.1, nI_toInt (by omega), eN]
    omega
  have hT : ∀ g j, g ≠ 306 → zI (zrT μ (zt1 τ) c) g j = zI (zt1 τ) g j := fun g j hg => by rw [zrT_I, if_neg (fun z => hg z.1)]
  rw [show nI 16 = 16 from rfl, k_pf_16, nI_clamp (by omega)]
  show zsim (f_X5_mend (zpI σ 512 0 (zI σ 512 0 + 1)) (nI c)) _ _ ∧ _
  unfold f_X5_mend
  rw [nI_clamp (by omega), eF]
  have hI : ∀ f i, f ≠ 306 → f ≠ 114 → zI (zpI (k_mend (zpI σ 512 0 (zI σ 512 0 + 1)) (nI c) (zn μ 843)) 114 c (zI (zpI σ 512 0 (zI σ 512 0 + 1)) 114 c + 1)) f i = zI (zpI σ 512 0 (zI σ 512 0 + 1)) f i := fun f i h1 h2 => by
    rw [zI_pI, if_neg (fun z => h2 z.1), k_mend_I _ _ _ _ h1]
  have hA : ∀ k i j, zA (zpI (k_mend (zpI σ 512 0 (zI σ 512 0 + 1)) (nI c) (zn μ 843)) 114 c (zI (zpI σ 512 0 (zI σ 512 0 + 1)) 114 c + 1)) k i j = zA σ k i j := fun k i j => by
    rw [zA_pI, k_mend_A]; rfl
  have hL : ∀ f i, zL (zpI (k_mend (zpI σ 512 0 (zI σ 512 0 + 1)) (nI c) (zn μ 843)) 114 c (zI (zpI σ 512 0 (zI σ 512 0 + 1)) 114 c + 1)) f i = zL σ f i := fun f i => by
    rw [zL_pI, k_mend_L]; rfl
  have h114 : ∀ d, zI (zpI (k_mend (zpI σ 512 0 (zI σ 512 0 + 1)) (nI c) (zn μ 843)) 114 c (zI (zpI σ 512 0 (zI σ 512 0 + 1)) 114 c + 1)) 114 d = if d = c then zI σ 114 c + 1 else zI σ 114 d := fun d => by
    rw [zI_pI]
    by_cases e : d = c
    · rw [if_pos ⟨rfl, e⟩, if_pos e]; rfl
    · rw [if_neg (fun z => e z.2), if_neg e, k_mend_I _ _ _ _ (by decide)]; rfl
  have h306 : ∀ f, f < zn μ 843 → zI (zpI (k_mend (zpI σ 512 0 (zI σ 512 0 + 1)) (nI c) (zn μ 843)) 114 c (zI (zpI σ 512 0 (zI σ 512 0 + 1)) 114 c + 1)) 306 f = zI (zrT μ (zt1 τ) c) 306 f := fun f hf1 => by
    rw [zI_pI, if_neg (by simp), k_mend_306, zrT_I, e512]
    have q1 : zI (zpI σ 512 0 (zI σ 512 0 + 1)) 300 f = zA μ 63 0 f := (hf f hf1).1
    have q2 : zI (zpI σ 512 0 (zI σ 512 0 + 1)) 306 f = zI (zt1 τ) 306 f := (hf f hf1).2.2.2.2.2.2
    rw [q1, q2]
    by_cases z : zA μ 63 0 f = nI c ∧ zI (zt1 τ) 306 f = 0
    · rw [if_pos ⟨hf1, z⟩, if_pos ⟨rfl, hf1, z⟩]
    · rw [if_neg (fun y => z y.2), if_neg (fun y => z y.2.2)]
  generalize zpI (k_mend (zpI σ 512 0 (zI σ 512 0 + 1)) (nI c) (zn μ 843)) 114 c (zI (zpI σ 512 0 (zI σ 512 0 + 1)) 114 c + 1) = ρ at hI hA hL h114 h306 ⊢
  have gz : ∀ k d, k ≠ 45 → k ≠ 44 → zA (g_16 μ c) k 0 d = zA μ k 0 d := fun k d h1 h2 => by unfold g_16; simp [zI_pI, zI_pL, zI_pA, zL_pI, zL_pL, zL_pA, zA_pI, zA_pL, zA_pA, h1, h2]
  have g44 : ∀ d, zA (g_16 μ c) 44 0 d = if d = c then zA μ 44 0 c + 1 else zA μ 44 0 d := fun d => by
    unfold g_16
    by_cases e : d = c
    · subst e; simp [zI_pI, zI_pL, zI_pA, zL_pI, zL_pL, zL_pA, zA_pI, zA_pL, zA_pA]
    · simp [zI_pI, zI_pL, zI_pA, zL_pI, zL_pL, zL_pA, zA_pI, zA_pL, zA_pA, e]
  have g45 : ∀ d, zA (g_16 μ c) 45 0 d = if d = c then zI μ 846 0 else zA μ 45 0 d := fun d => by
    unfold g_16
    by_cases e : d = c
    · subst e; simp [zI_pI, zI_pL, zI_pA, zL_pI, zL_pL, zL_pA, zA_pI, zA_pL, zA_pA]
    · simp [zI_pI, zI_pL, zI_pA, zL_pI, zL_pL, zL_pA, zA_pI, zA_pL, zA_pA, e]
  refine ⟨⟨⟨(hI 505 0 (by decide) (by decide)).trans n1, (hI 506 0 (by decide) (by decide)).trans n2, (hI 0 0 (by decide) (by decide)).trans n3, (hI 507 0 (by decide) (by decide)).trans n4, (hI 508 0 (by decide) (by decide)).trans n5, (hI 509 0 (by decide) (by decide)).trans n6, (hI 510 0 (by decide) (by decide)).trans n7, (hL 511 0).trans n8, ?_⟩, fun g hg1 => ?_, fun d hd => ?_, fun d hd => ?_, fun d hd => ?_, fun d hd => ?_, fun d hd => ?_, fun i hi => ?_, fun r hr1 => ?_, fun l hl1 => ?_, fun f hf1 => ?_⟩, ⟨mn, md, fun d hd => ?_, fun d hd z => ?_, fun d hd => ?_, fun i hi => ?_, fun l hl1 => ?_, fun l l' hl1 hl2 => ?_, fun f hf1 => ?_, ⟨fun d h1 h2 => ?_, fun d h1 h2 => ?_, fun d h1 h2 => ?_⟩, ⟨?_, ⟨by rw [upa.1, upa.2], by rw [upa.2]; omega⟩, by omega, ?_⟩, fun d hd => ?_, fun f hf1 => ?_, fun f d hf1 hd => ?_, ?_⟩⟩
  · rw [hI 512 0 (by decide) (by decide), hT 512 0 (by decide)]; exact e512
  · rw [hI 600 g (by decide) (by decide), hI 601 g (by decide) (by decide), gz 31 g (by decide) (by decide), gz 32 g (by decide) (by decide)]; exact hg g hg1
  · rw [hI 100 d (by decide) (by decide), hI 101 d (by decide) (by decide), hI 102 d (by decide) (by decide), hI 103 d (by decide) (by decide), hI 104 d (by decide) (by decide), gz 33 d (by decide) (by decide), gz 34 d (by decide) (by decide), gz 35 d (by decide) (by decide), gz 36 d (by decide) (by decide), gz 37 d (by decide) (by decide)]; exact hmm d hd
  · rw [hI 105 d (by decide) (by decide), hI 110 d (by decide) (by decide), hI 113 d (by decide) (by decide), hI 115 d (by decide) (by decide), hI 116 d (by decide) (by decide), hI 117 d (by decide) (by decide), h114, gz 38 d (by decide) (by decide), gz 41 d (by decide) (by decide), gz 42 d (by decide) (by decide), gz 43 d (by decide) (by decide), g44, hT 116 d (by decide), hT 117 d (by decide)]
    obtain ⟨a1, a2, a3, a4, a5, a6, a7⟩ := hc d hd
    refine ⟨a1, a2, a3, ?_, a5, a6, a7⟩
    rw [(hc c hc1).2.2.2.1, a4]
  · show _ = nI (y_cp (g_16 μ c) d (zn μ 841)) ∧ _ = y_hE (g_16 μ c) d (zn μ 841) ∧ _ = y_aE (g_16 μ c) d (zn μ 841)
    rw [hI 109 d (by decide) (by decide), hI 111 d (by decide) (by decide), hL 112 d]
    exact he d hd
  · rw [hI 106 d (by decide) (by decide), hI 107 d (by decide) (by decide), gz 38 d (by decide) (by decide), gz 39 d (by decide) (by decide), gz 40 d (by decide) (by decide)]
    simp only [hA, gz 54 _ (by decide) (by decide)]
    exact hw d hd
  · rw [hI 118 d (by decide) (by decide), hI 119 d (by decide) (by decide), gz 38 d (by decide) (by decide), gz 52 d (by decide) (by decide), gz 53 d (by decide) (by decide)]
    exact hh d hd
  · rw [hA, hA, hA]; exact hp i hi
  · rw [hA]; exact hr r hr1
  · rw [hI 400 l (by decide) (by decide), hI 401 l (by decide) (by decide)]
    simp only [hA]
    exact hl l hl1
  · rw [hI 300 f (by decide) (by decide), hI 301 f (by decide) (by decide), hI 302 f (by decide) (by decide), hI 303 f (by decide) (by decide), hI 304 f (by decide) (by decide), hI 305 f (by decide) (by decide), h306 f hf1, hT 305 f (by decide)]
    obtain ⟨a1, a2, a3, a4, a5, a6, -⟩ := hf f hf1
    exact ⟨a1, a2, a3, a4, a5, a6, rfl⟩
  · exact ms d hd
  · exact mw d hd z
  · exact mk d hd
  · exact mp i hi
  · exact ml l hl1
  · exact mx l l' hl1 hl2
  · exact mf f hf1
  · have hd : d ≠ c := by
      have : zn μ 840 ≤ d := h1
      omega
    rw [g44, if_neg hd]
    exact mz.1 d h1 h2
  · exact mz.2.1 d h1 h2
  · exact mz.2.2 d h1 h2
  · refine zbd_eq (hT 512 0 (by decide)) hNb
  · rw [upa.2, zn_eq (hT 512 0 (by decide)), eN]; omega
  · have := tc d hd
    rw [upa.2, zn_eq (hT 512 0 (by decide)), eN, hT 116 d (by decide), hT 117 d (by decide), g45]
    show tC _ _ (zI τ 116 d).toInt (zI τ 117 d).toInt (zA μ 48 0 d).toInt (zA μ 49 0 d).toInt (zA μ 46 0 d).toInt (zA μ 47 0 d).toInt _ (zA μ 50 0 d).toInt (zA μ 51 0 d).toInt
    have ea : (zI μ 846 0).toInt = (zn μ 846 : Int) := by rw [t0.2.1.1, nI_toInt (by omega)]
    unfold tC at this ⊢
    by_cases e : d = c
    · rw [if_pos e, ea]; omega
    · rw [if_neg e]; omega
  · have := tf f hf1
    rw [upa.2, zn_eq (hT 512 0 (by decide)), eN, hT 305 f (by decide), zrT_I]
    show tF _ _ (zI τ 305 f).toInt _ (zA μ 65 0 f).toInt
    unfold tF at this ⊢
    by_cases z : (306 : Nat) = 306 ∧ f < zn μ 843 ∧ zA μ 63 0 f = nI c ∧ zI (zt1 τ) 306 f = 0
    · rw [if_pos z, eT]; omega
    · rw [if_neg z]
      show 1 ≤ (zI τ 305 f).toInt ∧ _ ∧ 0 ≤ (zI τ 306 f).toInt ∧ (zI τ 306 f).toInt ≤ _ ∧ _
      omega
  · have hd : d < zn μ 840 := hd
    have hf1 : f < zn μ 843 := hf1
    have hX := tx f d hf1 hd
    have hF := tf f hf1
    have hC := tc d hd
    rw [hT 305 f (by decide), hT 116 d (by decide), hT 117 d (by decide), g45, zrT_I]
    show tX (zA μ 63 0 f = nI d) (zI τ 305 f).toInt _ (zI τ 116 d).toInt (zI τ 117 d).toInt (zA μ 65 0 f).toInt (zA μ 46 0 d).toInt (zA μ 47 0 d).toInt _ (zA μ 50 0 d).toInt (zA μ 51 0 d).toInt
    have ea : (zI μ 846 0).toInt = (zn μ 846 : Int) := by rw [t0.2.1.1, nI_toInt (by omega)]
    unfold tX at hX ⊢
    unfold tF at hF
    unfold tC at hC
    refine ⟨hX.1, hX.2.1, fun own => ?_⟩
    have hX3 := hX.2.2 own
    by_cases e : d = c
    · subst e
      rw [if_pos rfl, ea]
      by_cases z0 : zI τ 306 f = 0
      · rw [if_pos ⟨rfl, hf1, own, z0⟩, eT]
        have : (zI τ 306 f).toInt = 0 := by rw [z0]; decide
        omega
      · rw [if_neg (fun y => z0 y.2.2.2)]
        have : (zI τ 306 f).toInt ≠ 0 := fun y => z0 (Int32.toInt_inj.mp (by rw [y]; decide))
        show (0 < (zI τ 306 f).toInt ↔ _) ∧ (0 < (zI τ 306 f).toInt → _ < (zI τ 306 f).toInt) ∧ (_ → (_ ↔ 0 < (zI τ 306 f).toInt ∧ (zI τ 306 f).toInt < _)) ∧ (_ → (_ ↔ 0 < (zI τ 306 f).toInt ∧ (zI τ 306 f).toInt < _))
        omega
    · have hne : ¬ zA μ 63 0 f = nI c := fun y => e (nI_inj' (by omega) (by omega) (own.symm.trans y))
      rw [if_neg e, if_neg (fun y => hne y.2.2.1)]
      exact hX3
  · show 6 * zn μ 841 + zsmN (y_wk μ) (zn μ 840) ≤ zn (zrT μ (zt1 τ) c) 512
    rw [zn_eq (hT 512 0 (by decide)), eN]
    exact Nat.le_succ_of_le mb
end ZAH
