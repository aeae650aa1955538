section ZAE
variable {σ μ τ : zS}
/-! one canopy's state changes -/
theorem ml_st {ν : zS} {c : Nat} (h : ym_l μ) (h0 : ¬ zA μ 38 0 c = 97) (e1 : zn ν 842 = zn μ 842) (e2 : zn ν 840 = zn μ 840) (e3 : ∀ k, k = 59 ∨ k = 60 ∨ k = 61 ∨ k = 62 ∨ k = 33 → ∀ i, zA ν k 0 i = zA μ k 0 i) (e4 : ∀ d, d ≠ c → zA ν 38 0 d = zA μ 38 0 d) : ym_l ν := by
  intro l hl
  rw [e1] at hl
  obtain ⟨a, ha, ea, h60, hq⟩ := h l hl
  refine ⟨a, ha, by rw [e3 59 (by simp)]; exact ea, by rw [e3 60 (by simp)]; exact h60, fun q hqa => ?_⟩
  obtain ⟨m, r, hm, hr, q1, q2, q3, q4, q5⟩ := hq q hqa
  refine ⟨m, r, by rw [e2]; exact hm, by rw [e2]; exact hr, by rw [e3 61 (by simp)]; exact q1, by rw [e3 62 (by simp)]; exact q2, by rw [e3 33 (by simp)]; exact q3, by rw [e3 33 (by simp)]; exact q4, fun z => ?_⟩
  rw [e3 60 (by simp)] at z
  obtain ⟨w1, w2⟩ := q5 z
  exact ⟨by rw [e4 m (fun y => h0 (by rw [← y]; exact w1))]; exact w1, by rw [e4 r (fun y => h0 (by rw [← y]; exact w2))]; exact w2⟩
theorem mx_st {ν : zS} (h : ym_x μ) (e1 : zn ν 842 = zn μ 842) (e3 : ∀ k, k = 59 ∨ k = 60 ∨ k = 61 ∨ k = 62 ∨ k = 33 → ∀ i, zA ν k 0 i = zA μ k 0 i) : ym_x ν := by
  intro l l' hl hl' z z' q q' hq hq' e
  rw [e1] at hl hl'
  rw [e3 60 (by simp)] at z z'
  rw [e3 59 (by simp)] at hq hq'
  rw [e3 61 (by simp), e3 61 (by simp), e3 62 (by simp), e3 62 (by simp)] at e
  exact h l l' hl hl' z z' q q' hq hq' e
theorem mk_st {ν : zS} {c : Nat} (h : ym_k μ) (e1 : zn ν 841 = zn μ 841) (e2 : zn ν 840 = zn μ 840) (e3 : ∀ i, zA ν 41 0 i = zA μ 41 0 i) (e4 : ∀ d, d ≠ c → zA ν 38 0 d = zA μ 38 0 d) (h0 : y_ready ν c = true → y_ready μ c = true) : ym_k ν := by
  intro d hd
  rw [e2] at hd
  obtain ⟨k1, k2⟩ := h d hd
  rw [e3, e1]
  refine ⟨k1, fun z => k2 ?_⟩
  by_cases e : d = c
  · subst e; exact h0 z
  · unfold y_ready at z ⊢
    rw [e4 d e] at z
    exact z
theorem ms_st {ν : zS} {c : Nat} (h : ym_s μ) (e2 : zn ν 840 = zn μ 840) (e4 : ∀ d, d ≠ c → zA ν 38 0 d = zA μ 38 0 d) (h0 : zA ν 38 0 c = 111 ∨ zA ν 38 0 c = 112 ∨ zA ν 38 0 c = 107 ∨ zA ν 38 0 c = 97 ∨ zA ν 38 0 c = 104) : ym_s ν := by
  intro d hd
  rw [e2] at hd
  by_cases e : d = c
  · subst e; exact h0
  · rw [e4 d e]; exact h d hd
theorem mb_st {ν : zS} {c : Nat} (hc : c < zn μ 840) (h : 6 * zn μ 841 + zsmN (y_wk μ) (zn μ 840) ≤ zn τ 512) (e1 : zn ν 841 = zn μ 841) (e2 : zn ν 840 = zn μ 840) (e4 : ∀ d, d ≠ c → y_wk ν d = y_wk μ d) (h0 : y_wk ν c ≤ y_wk μ c + 1) : 6 * zn ν 841 + zsmN (y_wk ν) (zn ν 840) ≤ zn τ 512 + 1 := by
  have := zsmN_upd (p := y_wk ν) (q := y_wk μ) e4 hc
  rw [e1, e2]
  omega
theorem mz_st {ν : zS} {c : Nat} (hc : c < zn μ 840) (h : ym_z μ) (e1 : zn ν 840 = zn μ 840) (e2 : zn ν 842 = zn μ 842) (e3 : zn ν 843 = zn μ 843) (e4 : ∀ k, k = 38 ∨ k = 42 ∨ k = 43 ∨ k = 44 ∨ k = 48 ∨ k = 49 ∨ k = 50 ∨ k = 51 → ∀ d, d ≠ c → zA ν k 0 d = zA μ k 0 d) (e5 : ∀ k, k = 59 ∨ k = 60 → ∀ d, zn μ 842 ≤ d → zA ν k 0 d = zA μ k 0 d) (e6 : ∀ d, zn μ 843 ≤ d → zA ν 68 0 d = zA μ 68 0 d) : ym_z ν := by
  refine ⟨fun d h1 h2 => ?_, fun d h1 h2 => ?_, fun d h1 h2 => ?_⟩
  · rw [e1] at h1
    have hd : d ≠ c := by omega
    rw [e4 38 (by simp) d hd, e4 42 (by simp) d hd, e4 43 (by simp) d hd, e4 44 (by simp) d hd, e4 48 (by simp) d hd, e4 49 (by simp) d hd, e4 50 (by simp) d hd, e4 51 (by simp) d hd]
    exact h.1 d h1 h2
  · rw [e2] at h1
    rw [e5 59 (by simp) d h1, e5 60 (by simp) d h1]
    exact h.2.1 d h1 h2
  · rw [e3] at h1
    rw [e6 d h1]
    exact h.2.2 d h1 h2
/-! 5: hang -/
def g_5 (μ : zS) (w1 w2 : Int32) : zS := zpA (zpA (zpA μ 38 0 w1.toNatClampNeg 112) 39 0 w1.toNatClampNeg w2) 40 0 w1.toNatClampNeg 0
theorem fe_5 (h : zsim σ μ τ) (hm : ymod μ τ) (w1 w2 : Int32) : f_X10_hang μ w1 w2 = if k_ref σ (nI 5) w1 w2 0 0 = 0 then zpI (g_5 μ w1 w2) 838 0 0 else zpI μ 838 0 (zkc [1, 2, 3, 4] (k_ref σ (nI 5) w1 w2 0 0)) := by
  obtain ⟨hn, hg, hmm, hc, he, hw, hh, hp, hr, hl, hf⟩ := id h
  obtain ⟨n1, n2, n3, n4, n5, n6, n7, n8, n9⟩ := id hn
  obtain ⟨mn, md, ms, mw, mk, mp, ml, mx, mf, mz, t0, tc, tf, tx, mb⟩ := id hm
  obtain ⟨b1, b2, b3, b4, b5⟩ := id mn
  rw [show nI 5 = 5 from rfl, k_ref_5]
  unfold r_X8_refusalOf_5 r_X8_ofHang f_X10_hang
  rw [zr_has_c h hm]
  cases h1 : y_has μ 840 w1
  · rfl
  · obtain ⟨c, hc1, rfl⟩ := yhas_lt b2 (by decide) h1
    have := b2.2
    rw [nI_clamp (by omega), (hc c hc1).1]
    cases h2 : k_in w2 0 5
    · rfl
    · obtain ⟨j, -, hj, rfl⟩ := zk_lt (a := 0) (b := 5) h2 (by decide) (by decide)
      rw [zr_free6 h hm (by omega)]
      by_cases h3 : zA μ 38 0 c = 111
      · cases y_used μ (nI j)
        · rw [if_pos rfl, if_pos rfl, if_pos h3, if_pos rfl, if_pos rfl, if_pos rfl, if_pos h3]
          show _ = zpI (g_5 μ (nI c) (nI j)) 838 0 0
          unfold g_5
          rw [nI_clamp (by omega)]
          rfl
        · rw [if_pos rfl, if_pos rfl, if_pos h3, if_neg (by decide), if_pos rfl, if_pos rfl, if_pos h3]
          rfl
      · rw [if_pos rfl, if_pos rfl, if_neg h3, if_pos rfl, if_pos rfl, if_neg h3]
        rfl
theorem ok_5 (h : zsim σ μ τ) (hm : ymod μ τ) {w1 w2 : Int32} (h0 : k_ref σ (nI 5) w1 w2 0 0 = 0) : ∃ c j, c < zn μ 840 ∧ w1 = nI c ∧ j < 6 ∧ w2 = nI j ∧ zA μ 38 0 c = 111 ∧ y_used μ (nI j) = false := by
  obtain ⟨hn, hg, hmm, hc, he, hw, hh, hp, hr, hl, hf⟩ := id h
  obtain ⟨n1, n2, n3, n4, n5, n6, n7, n8, n9⟩ := id hn
  obtain ⟨mn, md, ms, mw, mk, mp, ml, mx, mf, mz, t0, tc, tf, tx, mb⟩ := id hm
  obtain ⟨b1, b2, b3, b4, b5⟩ := id mn
  rw [show nI 5 = 5 from rfl, k_ref_5] at h0
  unfold r_X8_refusalOf_5 r_X8_ofHang at h0
  rw [zr_has_c h hm] at h0
  cases h1 : y_has μ 840 w1
  · rw [h1] at h0; simp at h0
  · obtain ⟨c, hc1, rfl⟩ := yhas_lt b2 (by decide) h1
    have := b2.2
    rw [h1, nI_clamp (by omega), (hc c hc1).1, if_pos rfl] at h0
    cases h2 : k_in w2 0 5
    · rw [h2] at h0; simp at h0
    · obtain ⟨j, -, hj, rfl⟩ := zk_lt (a := 0) (b := 5) h2 (by decide) (by decide)
      rw [h2, if_pos rfl, zr_free6 h hm (by omega)] at h0
      by_cases h3 : zA μ 38 0 c = 111
      · rw [if_pos h3] at h0
        cases h4 : y_used μ (nI j)
        · exact ⟨c, j, hc1, rfl, by omega, rfl, h3, h4⟩
        · rw [h4] at h0; simp at h0
      · rw [if_neg h3] at h0; exact absurd h0 (by decide)
theorem re_5 (h : zsim σ μ τ) (hm : ymod μ τ) {w1 w2 : Int32} (h0 : k_ref σ (nI 5) w1 w2 0 0 = 0) : r_X10_hang μ w1 w2 = k_pr σ (nI 5) w1 w2 0 0 := by
  obtain ⟨c, j, hc1, rfl, hj, rfl, h3, h4⟩ := ok_5 h hm h0
  obtain ⟨hn, hg, hmm, hc, he, hw, hh, hp, hr, hl, hf⟩ := id h
  obtain ⟨n1, n2, n3, n4, n5, n6, n7, n8, n9⟩ := id hn
  obtain ⟨mn, md, ms, mw, mk, mp, ml, mx, mf, mz, t0, tc, tf, tx, mb⟩ := id hm
  obtain ⟨b1, b2, b3, b4, b5⟩ := id mn
  have := b2.2
  rw [show nI 5 = 5 from rfl, k_pr_5]
  unfold r_X10_hang
  have e1 : y_has μ 840 (nI c) = true := by rw [← zr_has_c h hm]; exact zhas_nI (zbd_eq n2 b2) (by decide) (by rw [zr_nc h]; exact hc1)
  have e2 : k_in (nI j) 0 5 = true := by
    unfold k_in
    rw [decide_eq_false (nI_pos (by omega)), decide_eq_false (fun z => by rw [show (5 : Int32) = nI 5 from rfl, nI_ltI (by omega) (by omega)] at z; omega)]
    rfl
  rw [e1, e2, nI_clamp (by omega), if_pos rfl, if_pos rfl, if_pos h3, h4, if_pos rfl]
  show nI (y_hooks _) = nI (zct (fun d => decide (zI (f_X5_putOnHook (zpI σ 512 0 (zI σ 512 0 + 1)) (nI c) (nI j)) 105 d = 112)) (zn σ 506))
  rw [zr_nc h]
  unfold y_hooks f_X5_putOnHook
  rw [nI_clamp (by omega)]
  refine congrArg nI (zct_congr (fun d hd => ?_))
  have := (hc d hd).1
  by_cases e : d = c
  · subst e; simp [zI_pI, zI_pL, zI_pA, zL_pI, zL_pL, zL_pA, zA_pI, zA_pL, zA_pA]
  · simp [zI_pI, zI_pL, zI_pA, zL_pI, zL_pL, zL_pA, zA_pI, zA_pL, zA_pA, e, this]
theorem sm_5 (h : zsim σ μ τ) (hm : ymod μ τ) (hN : zn τ 512 < 512) {w1 w2 : Int32} (h0 : k_ref σ (nI 5) w1 w2 0 0 = 0) : zsim (k_pf σ (nI 5) w1 w2 0 0) (g_5 μ w1 w2) (zt1 τ) ∧ ymod (g_5 μ w1 w2) (zt1 τ) := by
  obtain ⟨c, j, hc1, rfl, hj, rfl, h3, h4⟩ := ok_5 h hm h0
  obtain ⟨hn, hg, hmm, hc, he, hw, hh, hp, hr, hl, hf⟩ := id h
  obtain ⟨n1, n2, n3, n4, n5, n6, n7, n8, n9⟩ := id hn
  obtain ⟨mn, md, ms, mw, mk, mp, ml, mx, mf, mz, t0, tc, tf, tx, mb⟩ := id hm
  obtain ⟨b1, b2, b3, b4, b5⟩ := id mn
  have hb2 := b2.2
  rw [show nI 5 = 5 from rfl, k_pf_5]
  show zsim (f_X5_putOnHook (zpI σ 512 0 (zI σ 512 0 + 1)) (nI c) (nI j)) _ _ ∧ _
  unfold f_X5_putOnHook g_5
  rw [nI_clamp (by omega)]
  refine ⟨⟨⟨n1, n2, n3, n4, n5, n6, n7, n8, ?_⟩, hg, hmm, ?_, he, ?_, ?_, hp, hr, hl, hf⟩, ?_⟩
  · show zI σ 512 0 + 1 = zI τ 512 0 + 1
    rw [n9]
  · intro d hd
    have := hc d hd
    by_cases e : d = c
    · subst e; simp [zI_pI, zI_pL, zI_pA, zL_pI, zL_pL, zL_pA, zA_pI, zA_pL, zA_pA, zt1, this]
    · simp [zI_pI, zI_pL, zI_pA, zL_pI, zL_pL, zL_pA, zA_pI, zA_pL, zA_pA, zt1, e, this]
  · intro d hd
    have := hw d hd
    by_cases e : d = c
    · subst e
      refine ⟨fun _ => ⟨by simp [zI_pI, zI_pL, zI_pA, zL_pI, zL_pL, zL_pA, zA_pI, zA_pL, zA_pA], by simp [zI_pI, zI_pL, zI_pA, zL_pI, zL_pL, zL_pA, zA_pI, zA_pL, zA_pA], fun q hq => ?_⟩, fun z => absurd (by simp [zI_pI, zI_pL, zI_pA, zL_pI, zL_pL, zL_pA, zA_pI, zA_pL, zA_pA]) z⟩
      simp [zI_pI, zI_pL, zI_pA, zL_pI, zL_pL, zL_pA, zA_pI, zA_pL, zA_pA] at hq
    · simp only [zI_pI, zI_pL, zI_pA, zL_pI, zL_pL, zL_pA, zA_pI, zA_pL, zA_pA, e, and_false, if_false]
      simpa [zI_pI, zI_pL, zI_pA, zL_pI, zL_pL, zL_pA, zA_pI, zA_pL, zA_pA, e] using this
  · intro d hd
    have := hh d hd
    by_cases e : d = c
    · subst e
      have w := this.2 (by rw [h3]; decide)
      refine ⟨fun z => ?_, fun z => by simp [zI_pI, zI_pL, zI_pA, zL_pI, zL_pL, zL_pA, zA_pI, zA_pL, zA_pA, w]⟩
      simp [zI_pI, zI_pL, zI_pA, zL_pI, zL_pL, zL_pA, zA_pI, zA_pL, zA_pA] at z
    · simpa [zI_pI, zI_pL, zI_pA, zL_pI, zL_pL, zL_pA, zA_pI, zA_pL, zA_pA, e] using this
  · refine ymod_tick hm hN mn md (ms_st (c := c) ms rfl (fun d hd => by simp [zI_pI, zI_pL, zI_pA, zL_pI, zL_pL, zL_pA, zA_pI, zA_pL, zA_pA, hd]) (by simp [zI_pI, zI_pL, zI_pA, zL_pI, zL_pL, zL_pA, zA_pI, zA_pL, zA_pA])) ?_ (mk_st (c := c) mk rfl rfl (fun i => rfl) (fun d hd => by simp [zI_pI, zI_pL, zI_pA, zL_pI, zL_pL, zL_pA, zA_pI, zA_pL, zA_pA, hd]) (fun z => by simp [y_ready, zI_pI, zI_pL, zI_pA, zL_pI, zL_pL, zL_pA, zA_pI, zA_pL, zA_pA] at z)) mp (ml_st (c := c) ml (by rw [h3]; decide) rfl rfl (fun k hk i => by rcases hk with rfl | rfl | rfl | rfl | rfl <;> rfl) (fun d hd => by simp [zI_pI, zI_pL, zI_pA, zL_pI, zL_pL, zL_pA, zA_pI, zA_pL, zA_pA, hd])) (mx_st mx rfl (fun k hk i => by rcases hk with rfl | rfl | rfl | rfl | rfl <;> rfl)) mf (mz_st (c := c) hc1 mz rfl rfl rfl (fun k hk d hd => by rcases hk with rfl | rfl | rfl | rfl | rfl | rfl | rfl | rfl <;> simp [zI_pI, zI_pL, zI_pA, zL_pI, zL_pL, zL_pA, zA_pI, zA_pL, zA_pA, hd]) (fun k hk d hd => by rcases hk with rfl | rfl <;> rfl) (fun d hd => rfl)) rfl rfl (fun k hk c => by rcases hk with rfl | rfl | rfl | rfl | rfl | rfl | rfl | rfl | rfl <;> rfl) rfl (mb_st (c := c) hc1 mb rfl rfl (fun d hd => by simp [y_wk, zI_pI, zI_pL, zI_pA, zL_pI, zL_pL, zL_pA, zA_pI, zA_pL, zA_pA, hd]) (by simp [y_wk, zI_pI, zI_pL, zI_pA, zL_pI, zL_pL, zL_pA, zA_pI, zA_pL, zA_pA, h3]))
    intro d hd z
    by_cases e : d = c
    · subst e
      refine ⟨⟨j, hj, by simp [zI_pI, zI_pL, zI_pA, zL_pI, zL_pL, zL_pA, zA_pI, zA_pL, zA_pA]⟩, 0, by decide, by simp [zI_pI, zI_pL, zI_pA, zL_pI, zL_pL, zL_pA, zA_pI, zA_pL, zA_pA]; rfl, fun q hq => absurd hq (Nat.not_lt_zero _)⟩
    · have := mw d hd (by simpa [zI_pI, zI_pL, zI_pA, zL_pI, zL_pL, zL_pA, zA_pI, zA_pL, zA_pA, e] using z)
      simpa [zI_pI, zI_pL, zI_pA, zL_pI, zL_pL, zL_pA, zA_pI, zA_pL, zA_pA, e] using this
/-! 7: breakOff -/
def g_7 (μ : zS) (w1 : Int32) : zS := zpA μ 38 0 w1.toNatClampNeg 111
theorem fe_7 (h : zsim σ μ τ) (hm : ymod μ τ) (w1 : Int32) : f_X10_breakOff μ w1 = if k_ref σ (nI 7) w1 0 0 0 = 0 then zpI (g_7 μ w1) 838 0 0 else zpI μ 838 0 (zkc [1, 3] (k_ref σ (nI 7) w1 0 0 0)) := by
  obtain ⟨hn, hg, hmm, hc, he, hw, hh, hp, hr, hl, hf⟩ := id h
  obtain ⟨n1, n2, n3, n4, n5, n6, n7, n8, n9⟩ := id hn
  obtain ⟨mn, md, ms, mw, mk, mp, ml, mx, mf, mz, t0, tc, tf, tx, mb⟩ := id hm
  obtain ⟨b1, b2, b3, b4, b5⟩ := id mn
  rw [show nI 7 = 7 from rfl, k_ref_7]
  unfold r_X8_refusalOf_7 r_X8_ofCanopyIn f_X10_breakOff
  rw [zr_has_c h hm]
  cases h1 : y_has μ 840 w1
  · rfl
  · obtain ⟨c, hc1, rfl⟩ := yhas_lt b2 (by decide) h1
    have := b2.2
    rw [nI_clamp (by omega), (hc c hc1).1]
    by_cases h3 : zA μ 38 0 c = 112
    · rw [if_pos rfl, if_pos h3, if_pos rfl, if_neg (not_not_intro h3)]
      unfold g_7
      rw [nI_clamp (by omega)]
      rfl
    · rw [if_pos rfl, if_neg h3, if_pos rfl, if_pos h3]
      rfl
theorem ok_in (h : zsim σ μ τ) (hm : ymod μ τ) {w1 ch : Int32} (h0 : r_X8_ofCanopyIn σ w1 ch = 0) : ∃ c, c < zn μ 840 ∧ w1 = nI c ∧ zA μ 38 0 c = ch := by
  obtain ⟨hn, hg, hmm, hc, he, hw, hh, hp, hr, hl, hf⟩ := id h
  obtain ⟨n1, n2, n3, n4, n5, n6, n7, n8, n9⟩ := id hn
  obtain ⟨mn, md, ms, mw, mk, mp, ml, mx, mf, mz, t0, tc, tf, tx, mb⟩ := id hm
  obtain ⟨b1, b2, b3, b4, b5⟩ := id mn
  unfold r_X8_ofCanopyIn at h0
  rw [zr_has_c h hm] at h0
  cases h1 : y_has μ 840 w1
  · rw [h1] at h0; simp at h0
  · obtain ⟨c, hc1, rfl⟩ := yhas_lt b2 (by decide) h1
    have := b2.2
    rw [h1, nI_clamp (by omega), (hc c hc1).1, if_pos rfl] at h0
    by_cases h3 : zA μ 38 0 c = ch
    · exact ⟨c, hc1, rfl, h3⟩
    · rw [if_pos h3] at h0; exact absurd h0 (by decide)
theorem yhas_nI (hm : ymod μ τ) {c : Nat} (hc : c < zn μ 840) : y_has μ 840 (nI c) = true := by
  have hb := hm.1.2.1
  have h2 := hb.2
  have := kyhas (σ := μ) (μ := μ) (g := 840) (x := nI c) hb (by decide) rfl
  rw [← this]
  exact zhas_nI hb (by decide) hc
theorem re_7 (h : zsim σ μ τ) (hm : ymod μ τ) {w1 : Int32} (h0 : k_ref σ (nI 7) w1 0 0 0 = 0) : r_X10_breakOff μ w1 = k_pr σ (nI 7) w1 0 0 0 := by
  rw [show nI 7 = 7 from rfl, k_ref_7] at h0
  obtain ⟨c, hc1, rfl, h3⟩ := ok_in h hm h0
  obtain ⟨hn, hg, hmm, hc, he, hw, hh, hp, hr, hl, hf⟩ := id h
  obtain ⟨n1, n2, n3, n4, n5, n6, n7, n8, n9⟩ := id hn
  obtain ⟨mn, md, ms, mw, mk, mp, ml, mx, mf, mz, t0, tc, tf, tx, mb⟩ := id hm
  obtain ⟨b1, b2, b3, b4, b5⟩ := id mn
  have := b2.2
  rw [show nI 7 = 7 from rfl, k_pr_7]
  unfold r_X10_breakOff
  rw [yhas_nI hm hc1, nI_clamp (by omega), if_pos rfl, if_pos h3]
  show zA μ 40 0 c = zI (zpI σ 512 0 (zI σ 512 0 + 1)) 107 (nI c).toNatClampNeg
  rw [nI_clamp (by omega)]
  exact ((hw c hc1).1 h3).2.1.symm
theorem sm_7 (h : zsim σ μ τ) (hm : ymod μ τ) (hN : zn τ 512 < 512) {w1 : Int32} (h0 : k_ref σ (nI 7) w1 0 0 0 = 0) : zsim (k_pf σ (nI 7) w1 0 0 0) (g_7 μ w1) (zt1 τ) ∧ ymod (g_7 μ w1) (zt1 τ) := by
  rw [show nI 7 = 7 from rfl, k_ref_7] at h0
  obtain ⟨c, hc1, rfl, h3⟩ := ok_in h hm h0
  obtain ⟨hn, hg, hmm, hc, he, hw, hh, hp, hr, hl, hf⟩ := id h
  obtain ⟨n1, n2, n3, n4, n5, n6, n7, n8, n9⟩ := id hn
  obtain ⟨mn, md, ms, mw, mk, mp, ml, mx, mf, mz, t0, tc, tf, tx, mb⟩ := id hm
  obtain ⟨b1, b2, b3, b4, b5⟩ := id mn
  have hb2 := b2.2
  rw [show nI 7 = 7 from rfl, k_pf_7]
  show zsim (f_X5_takeOffHook (zpI σ 512 0 (zI σ 512 0 + 1)) (nI c).toNatClampNeg) _ _ ∧ _
  unfold f_X5_takeOffHook g_7
  rw [nI_clamp (by omega)]
  refine ⟨⟨⟨n1, n2, n3, n4, n5, n6, n7, n8, ?_⟩, hg, hmm, ?_, he, ?_, ?_, hp, hr, hl, hf⟩, ?_⟩
  · show zI σ 512 0 + 1 = zI τ 512 0 + 1
    rw [n9]
  · intro d hd
    have := hc d hd
    by_cases e : d = c
    · subst e; simp [zI_pI, zI_pL, zI_pA, zL_pI, zL_pL, zL_pA, zA_pI, zA_pL, zA_pA, zt1, this]
    · simp [zI_pI, zI_pL, zI_pA, zL_pI, zL_pL, zL_pA, zA_pI, zA_pL, zA_pA, zt1, e, this]
  · intro d hd
    have := hw d hd
    by_cases e : d = c
    · subst e
      refine ⟨fun z => ?_, fun z => by simp [zI_pI, zI_pL, zI_pA, zL_pI, zL_pL, zL_pA, zA_pI, zA_pL, zA_pA]⟩
      simp [zI_pI, zI_pL, zI_pA, zL_pI, zL_pL, zL_pA, zA_pI, zA_pL, zA_pA] at z
    · simpa [zI_pI, zI_pL, zI_pA, zL_pI, zL_pL, zL_pA, zA_pI, zA_pL, zA_pA, e] using this
  · intro d hd
    have := hh d hd
    by_cases e : d = c
    · subst e
      have w := this.2 (by rw [h3]; decide)
      refine ⟨fun z => ?_, fun z => by simp [zI_pI, zI_pL, zI_pA, zL_pI, zL_pL, zL_pA, zA_pI, zA_pL, zA_pA, w]⟩
      simp [zI_pI, zI_pL, zI_pA, zL_pI, zL_pL, zL_pA, zA_pI, zA_pL, zA_pA] at z
    · simpa [zI_pI, zI_pL, zI_pA, zL_pI, zL_pL, zL_pA, zA_pI, zA_pL, zA_pA, e] using this
  · refine ymod_tick hm hN mn md (ms_st (c := c) ms rfl (fun d hd => by simp [zI_pI, zI_pL, zI_pA, zL_pI, zL_pL, zL_pA, zA_pI, zA_pL, zA_pA, hd]) (by simp [zI_pI, zI_pL, zI_pA, zL_pI, zL_pL, zL_pA, zA_pI, zA_pL, zA_pA])) ?_ (mk_st (c := c) mk rfl rfl (fun i => rfl) (fun d hd => by simp [zI_pI, zI_pL, zI_pA, zL_pI, zL_pL, zL_pA, zA_pI, zA_pL, zA_pA, hd]) (fun z => by simp [y_ready, zI_pI, zI_pL, zI_pA, zL_pI, zL_pL, zL_pA, zA_pI, zA_pL, zA_pA] at z)) mp (ml_st (c := c) ml (by rw [h3]; decide) rfl rfl (fun k hk i => by rcases hk with rfl | rfl | rfl | rfl | rfl <;> rfl) (fun d hd => by simp [zI_pI, zI_pL, zI_pA, zL_pI, zL_pL, zL_pA, zA_pI, zA_pL, zA_pA, hd])) (mx_st mx rfl (fun k hk i => by rcases hk with rfl | rfl | rfl | rfl | rfl <;> rfl)) mf (mz_st (c := c) hc1 mz rfl rfl rfl (fun k hk d hd => by rcases hk with rfl | rfl | rfl | rfl | rfl | rfl | rfl | rfl <;> simp [zI_pI, zI_pL, zI_pA, zL_pI, zL_pL, zL_pA, zA_pI, zA_pL, zA_pA, hd]) (fun k hk d hd => by rcases hk with rfl | rfl <;> rfl) (fun d hd => rfl)) rfl rfl (fun k hk c => by rcases hk with rfl | rfl | rfl | rfl | rfl | rfl | rfl | rfl | rfl <;> rfl) rfl (mb_st (c := c) hc1 mb rfl rfl (fun d hd => by simp [y_wk, zI_pI, zI_pL, zI_pA, zL_pI, zL_pL, zL_pA, zA_pI, zA_pL, zA_pA, hd]) (by simp [y_wk, zI_pI, zI_pL, zI_pA, zL_pI, zL_pL, zL_pA, zA_pI, zA_pL, zA_pA]))
    intro d hd z
    by_cases e : d = c
    · subst e; simp [zI_pI, zI_pL, zI_pA, zL_pI, zL_pL, zL_pA, zA_pI, zA_pL, zA_pA] at z
    · have := mw d hd (by simpa [zI_pI, zI_pL, zI_pA, zL_pI, zL_pL, zL_pA, zA_pI, zA_pL, zA_pA, e] using z)
      simpa [zI_pI, zI_pL, zI_pA, zL_pI, zL_pL, zL_pA, zA_pI, zA_pL, zA_pA, e] using this
end ZAE
