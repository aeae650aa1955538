section ZAF
variable {σ μ τ : zS}
theorem yhas_nF (hm : ymod μ τ) {c : Nat} (hc : c < zn μ 843) : y_has μ 843 (nI c) = true := by
  have hb := hm.1.2.2.2.2
  have h2 := hb.2
  have := kyhas (σ := μ) (μ := μ) (g := 843) (x := nI c) hb (by decide) rfl
  rw [← this]
  exact zhas_nI hb (by decide) hc
/-! 13: widen -/
def g_13 (μ : zS) (w1 : Int32) : zS := zpA μ 66 0 w1.toNatClampNeg (zA μ 66 0 w1.toNatClampNeg + 1)
theorem ok_13 (h : zsim σ μ τ) (hm : ymod μ τ) (w1 : Int32) : (f_X10_widen μ w1 = if k_ref σ (nI 13) w1 0 0 0 = 0 then zpI (g_13 μ w1) 838 0 0 else zpI μ 838 0 (zkc [1, 3] (k_ref σ (nI 13) w1 0 0 0))) ∧ (k_ref σ (nI 13) w1 0 0 0 = 0 → ∃ f v, f < zn μ 843 ∧ w1 = nI f ∧ zA μ 66 0 f = nI v ∧ v < 4 ∧ r_X10_widen μ w1 = k_pr σ (nI 13) w1 0 0 0) := by
  obtain ⟨hn, hg, hmm, hc, he, hw, hh, hp, hr, hl, hf⟩ := id h
  obtain ⟨n1, n2, n3, n4, n5, n6, n7, n8, n9⟩ := id hn
  obtain ⟨mn, md, ms, mw, mk, mp, ml, mx, mf, mz, t0, tc, tf, tx, mb⟩ := id hm
  obtain ⟨b1, b2, b3, b4, b5⟩ := id mn
  rw [show nI 13 = 13 from rfl, k_ref_13, k_pr_13]
  unfold r_X8_refusalOf_13 r_X8_ofWiden f_X10_widen r_X10_widen
  rw [zr_has_f h hm]
  cases h1 : y_has μ 843 w1
  · exact ⟨rfl, fun z => by simp at z⟩
  · obtain ⟨f, hf1, rfl⟩ := yhas_lt b5 (by decide) h1
    have := b5.2
    obtain ⟨f1, f2, f3, f4, f5, -⟩ := hf f hf1
    obtain ⟨-, -, q1, v, hv, ev⟩ := mf f hf1
    have e4 : (zI σ 302 f < 4) ↔ ¬ zA μ 66 0 f = 4 := by
      rw [f3, ev]
      rcases (show v = 0 ∨ v = 1 ∨ v = 2 ∨ v = 3 ∨ v = 4 by omega) with rfl | rfl | rfl | rfl | rfl <;> decide
    have e5 : (zI σ 304 f = 0) ↔ ¬ zA μ 68 0 f = 1 := by rw [f5]; rcases q1 with e | e <;> rw [e] <;> decide
    rw [nI_clamp (by omega)]
    by_cases c1 : zA μ 68 0 f = 1
    · rw [if_pos rfl, if_pos rfl, if_pos rfl, if_pos c1, if_pos (fun z => (e5.mp z) c1)]
      exact ⟨rfl, fun z => absurd z (by decide)⟩
    · have c1' := not_not_intro (e5.mpr c1)
      rw [if_pos rfl, if_pos rfl, if_pos rfl, if_neg c1, if_neg c1', if_neg c1, f4]
      by_cases c2 : zA μ 67 0 f = 45
      · have c2' := not_not_intro c2
        rw [if_neg c2', if_neg c2', if_neg c2']
        by_cases c3 : zA μ 66 0 f = 4
        · rw [if_neg (not_not_intro c3), if_neg (fun z => (e4.mp z) c3)]
          exact ⟨rfl, fun z => absurd z (by decide)⟩
        · rw [if_pos c3, if_pos (e4.mpr c3), if_pos c3]
          refine ⟨?_, fun _ => ⟨f, v, hf1, rfl, ev, ?_, ?_⟩⟩
          · show _ = zpI (g_13 μ (nI f)) 838 0 0
            unfold g_13
            rw [nI_clamp (by omega)]
            rfl
          · rcases Nat.lt_or_ge v 4 with q | q
            · exact q
            · exact absurd (by rw [ev, show v = 4 by omega]; rfl) c3
          · show zA (zpA μ 66 0 f (zA μ 66 0 f + 1)) 66 0 f = zI (zpI (zpI σ 512 0 (zI σ 512 0 + 1)) 302 (nI f).toNatClampNeg (zI (zpI σ 512 0 (zI σ 512 0 + 1)) 302 (nI f).toNatClampNeg + 1)) 302 (nI f).toNatClampNeg
            rw [nI_clamp (by omega)]
            simp [zI_pI, zI_pL, zI_pA, zL_pI, zL_pL, zL_pA, zA_pI, zA_pL, zA_pA, f3]
      · rw [if_pos c2, if_pos c2, if_pos c2]
        exact ⟨rfl, fun z => absurd z (by decide)⟩
theorem sm_13 (h : zsim σ μ τ) (hm : ymod μ τ) (hN : zn τ 512 < 512) {w1 : Int32} (h0 : k_ref σ (nI 13) w1 0 0 0 = 0) : zsim (k_pf σ (nI 13) w1 0 0 0) (g_13 μ w1) (zt1 τ) ∧ ymod (g_13 μ w1) (zt1 τ) := by
  obtain ⟨f, v, hf1, rfl, ev, hv, -⟩ := (ok_13 h hm w1).2 h0
  obtain ⟨hn, hg, hmm, hc, he, hw, hh, hp, hr, hl, hf⟩ := id h
  obtain ⟨n1, n2, n3, n4, n5, n6, n7, n8, n9⟩ := id hn
  obtain ⟨mn, md, ms, mw, mk, mp, ml, mx, mf, mz, t0, tc, tf, tx, mb⟩ := id hm
  obtain ⟨b1, b2, b3, b4, b5⟩ := id mn
  have hb2 := b5.2
  rw [show nI 13 = 13 from rfl, k_pf_13]
  show zsim (f_X5_raiseLevel (zpI σ 512 0 (zI σ 512 0 + 1)) (nI f).toNatClampNeg) _ _ ∧ _
  unfold f_X5_raiseLevel g_13
  rw [nI_clamp (by omega)]
  refine ⟨⟨⟨n1, n2, n3, n4, n5, n6, n7, n8, ?_⟩, hg, hmm, hc, he, hw, hh, hp, hr, hl, ?_⟩, ?_⟩
  · show zI σ 512 0 + 1 = zI τ 512 0 + 1
    rw [n9]
  · intro d hd
    have := hf d hd
    by_cases e : d = f
    · subst e; simp [zI_pI, zI_pL, zI_pA, zL_pI, zL_pL, zL_pA, zA_pI, zA_pL, zA_pA, zt1, this]
    · simp [zI_pI, zI_pL, zI_pA, zL_pI, zL_pL, zL_pA, zA_pI, zA_pL, zA_pA, zt1, e, this]
  · refine ymod_tick hm hN mn md ms mw mk mp ml mx ?_ mz rfl rfl (fun k hk c => by rcases hk with rfl | rfl | rfl | rfl | rfl | rfl | rfl | rfl | rfl <;> rfl) rfl (Nat.le_succ_of_le mb)
    intro d hd
    have := mf d hd
    by_cases e : d = f
    · subst e
      exact ⟨this.1, this.2.1, this.2.2.1, v + 1, by omega, by simp [zI_pI, zI_pL, zI_pA, zL_pI, zL_pL, zL_pA, zA_pI, zA_pL, zA_pA, ev, nI_1]⟩
    · exact ⟨this.1, this.2.1, this.2.2.1, by simpa [zI_pI, zI_pL, zI_pA, zL_pI, zL_pL, zL_pA, zA_pI, zA_pL, zA_pA, e] using this.2.2.2⟩
/-! 15: close -/
def g_15 (μ : zS) (w1 : Int32) : zS := zpA μ 68 0 w1.toNatClampNeg 1
theorem ok_15 (h : zsim σ μ τ) (hm : ymod μ τ) (w1 : Int32) : (f_X10_close μ w1 = if k_ref σ (nI 15) w1 0 0 0 = 0 then zpI (g_15 μ w1) 838 0 0 else zpI μ 838 0 (zkc [1] (k_ref σ (nI 15) w1 0 0 0))) ∧ (k_ref σ (nI 15) w1 0 0 0 = 0 → ∃ f, f < zn μ 843 ∧ w1 = nI f ∧ r_X10_close μ w1 = decide (k_pr σ (nI 15) w1 0 0 0 = 1)) := by
  obtain ⟨hn, hg, hmm, hc, he, hw, hh, hp, hr, hl, hf⟩ := id h
  obtain ⟨n1, n2, n3, n4, n5, n6, n7, n8, n9⟩ := id hn
  obtain ⟨mn, md, ms, mw, mk, mp, ml, mx, mf, mz, t0, tc, tf, tx, mb⟩ := id hm
  obtain ⟨b1, b2, b3, b4, b5⟩ := id mn
  rw [show nI 15 = 15 from rfl, k_ref_15, k_pr_15]
  unfold r_X8_refusalOf_15 f_X10_close r_X10_close
  rw [zr_has_f h hm]
  cases h1 : y_has μ 843 w1
  · exact ⟨rfl, fun z => by simp at z⟩
  · obtain ⟨f, hf1, rfl⟩ := yhas_lt b5 (by decide) h1
    have := b5.2
    obtain ⟨f1, f2, f3, f4, f5, -⟩ := hf f hf1
    obtain ⟨-, -, q1, -⟩ := mf f hf1
    rw [nI_clamp (by omega)]
    refine ⟨?_, fun _ => ⟨f, hf1, rfl, ?_⟩⟩
    · rw [if_pos rfl]
      show _ = zpI (g_15 μ (nI f)) 838 0 0
      unfold g_15
      rw [nI_clamp (by omega)]
      by_cases c1 : zA μ 68 0 f = 1
      · rw [if_neg (not_not_intro c1)]; rfl
      · rw [if_pos c1]; rfl
    · show _ = decide ((if ¬ zI σ 304 (nI f).toNatClampNeg = 0 then (0 : Int32) else 1) = 1)
      rw [nI_clamp (by omega), f5]
      rcases q1 with e | e <;> rw [e] <;> rfl
theorem sm_15 (h : zsim σ μ τ) (hm : ymod μ τ) (hN : zn τ 512 < 512) {w1 : Int32} (h0 : k_ref σ (nI 15) w1 0 0 0 = 0) : zsim (k_pf σ (nI 15) w1 0 0 0) (g_15 μ w1) (zt1 τ) ∧ ymod (g_15 μ w1) (zt1 τ) := by
  obtain ⟨f, hf1, rfl, -⟩ := (ok_15 h hm w1).2 h0
  obtain ⟨hn, hg, hmm, hc, he, hw, hh, hp, hr, hl, hf⟩ := id h
  obtain ⟨n1, n2, n3, n4, n5, n6, n7, n8, n9⟩ := id hn
  obtain ⟨mn, md, ms, mw, mk, mp, ml, mx, mf, mz, t0, tc, tf, tx, mb⟩ := id hm
  obtain ⟨b1, b2, b3, b4, b5⟩ := id mn
  have hb2 := b5.2
  rw [show nI 15 = 15 from rfl, k_pf_15]
  have e1 : f_X5_perform_15 σ (nI f) 0 0 0 = zpI (zpI σ 512 0 (zI σ 512 0 + 1)) 304 f 1 := by
    show f_X5_shut (zpI σ 512 0 (zI σ 512 0 + 1)) (nI f).toNatClampNeg = _
    unfold f_X5_shut
    rw [nI_clamp (by omega)]
    split <;> rfl
  rw [e1]
  unfold g_15
  rw [nI_clamp (by omega)]
  refine ⟨⟨⟨n1, n2, n3, n4, n5, n6, n7, n8, ?_⟩, hg, hmm, hc, he, hw, hh, hp, hr, hl, ?_⟩, ?_⟩
  · show zI σ 512 0 + 1 = zI τ 512 0 + 1
    rw [n9]
  · intro d hd
    have := hf d hd
    by_cases e : d = f
    · subst e; simp [zI_pI, zI_pL, zI_pA, zL_pI, zL_pL, zL_pA, zA_pI, zA_pL, zA_pA, zt1, this]
    · simp [zI_pI, zI_pL, zI_pA, zL_pI, zL_pL, zL_pA, zA_pI, zA_pL, zA_pA, zt1, e, this]
  · refine ymod_tick hm hN mn md ms mw mk mp ml mx ?_ ⟨mz.1, mz.2.1, fun d h1 h2 => ?_⟩ rfl rfl (fun k hk c => by rcases hk with rfl | rfl | rfl | rfl | rfl | rfl | rfl | rfl | rfl <;> rfl) rfl (Nat.le_succ_of_le mb)
    · intro d hd
      have := mf d hd
      by_cases e : d = f
      · subst e
        exact ⟨this.1, this.2.1, Or.inr (by simp [zI_pI, zI_pL, zI_pA, zL_pI, zL_pL, zL_pA, zA_pI, zA_pL, zA_pA]), this.2.2.2⟩
      · exact ⟨this.1, this.2.1, by simpa [zI_pI, zI_pL, zI_pA, zL_pI, zL_pL, zL_pA, zA_pI, zA_pL, zA_pA, e] using this.2.2.1, this.2.2.2⟩
    · have h1 : zn μ 843 ≤ d := h1
      have := mz.2.2 d h1 h2
      simpa [zI_pI, zI_pL, zI_pA, zL_pI, zL_pL, zL_pA, zA_pI, zA_pL, zA_pA, show ¬ d = f by omega] using this
/-! 14: tellCause -/
def g_14 (μ : zS) (w1 w2 : Int32) : zS := zpA μ 67 0 w1.toNatClampNeg w2
theorem ok_14 (h : zsim σ μ τ) (hm : ymod μ τ) (w1 w2 : Int32) : (f_X10_tellCause μ w1 w2 = if k_ref σ (nI 14) w1 w2 0 0 = 0 then zpI (g_14 μ w1 w2) 838 0 0 else zpI μ 838 0 (zkc [1, 2, 3] (k_ref σ (nI 14) w1 w2 0 0))) ∧ (k_ref σ (nI 14) w1 w2 0 0 = 0 → ∃ f, f < zn μ 843 ∧ w1 = nI f ∧ (w2.toUInt32 % 65536).toInt32 = w2 ∧ r_X10_tellCause μ w1 w2 = ((k_pr σ (nI 14) w1 w2 0 0).toUInt32 % 65536).toInt32) := by
  obtain ⟨hn, hg, hmm, hc, he, hw, hh, hp, hr, hl, hf⟩ := id h
  obtain ⟨n1, n2, n3, n4, n5, n6, n7, n8, n9⟩ := id hn
  obtain ⟨mn, md, ms, mw, mk, mp, ml, mx, mf, mz, t0, tc, tf, tx, mb⟩ := id hm
  obtain ⟨b1, b2, b3, b4, b5⟩ := id mn
  rw [show nI 14 = 14 from rfl, k_ref_14, k_pr_14]
  unfold r_X8_refusalOf_14 r_X8_ofTellCause f_X10_tellCause r_X10_tellCause
  rw [zr_has_f h hm]
  cases h1 : y_has μ 843 w1
  · exact ⟨rfl, fun z => by simp at z⟩
  · obtain ⟨f, hf1, rfl⟩ := yhas_lt b5 (by decide) h1
    have := b5.2
    obtain ⟨f1, f2, f3, f4, f5, -⟩ := hf f hf1
    obtain ⟨-, -, q1, -⟩ := mf f hf1
    have e5 : (zI σ 304 f = 0) ↔ ¬ zA μ 68 0 f = 1 := by rw [f5]; rcases q1 with e | e <;> rw [e] <;> decide
    have hres : ((zA (zpI μ 838 0 0) 67 0 f).toUInt32 % 65536).toInt32 = ((r_X5_perform_14 σ (nI f) w2 0 0).toUInt32 % 65536).toInt32 := by
      show ((zA μ 67 0 f).toUInt32 % 65536).toInt32 = ((zI σ 303 (nI f).toNatClampNeg).toUInt32 % 65536).toInt32
      rw [nI_clamp (by omega), f4]
    have hG : zpA (zpI μ 838 0 0) 67 0 f w2 = zpI (g_14 μ (nI f) w2) 838 0 0 := by
      unfold g_14
      rw [nI_clamp (by omega)]
      rfl
    rw [nI_clamp (by omega), f2]
    by_cases c1 : zA μ 68 0 f = 1
    · have c1' : ¬ zI σ 304 f = 0 := fun z => (e5.mp z) c1
      simp only [c1, c1', if_true, not_false_eq_true]
      by_cases d1 : w2 = 108
      · subst d1; exact ⟨rfl, fun z => absurd z (by decide)⟩
      · by_cases d2 : w2 = 104
        · subst d2; exact ⟨rfl, fun z => absurd z (by decide)⟩
        · by_cases d3 : w2 = 114
          · subst d3; exact ⟨rfl, fun z => absurd z (by decide)⟩
          · by_cases d4 : w2 = 99
            · subst d4; exact ⟨rfl, fun z => absurd z (by decide)⟩
            · by_cases d5 : w2 = 115
              · subst d5; exact ⟨rfl, fun z => absurd z (by decide)⟩
              · simp only [d1, d2, d3, d4, d5, if_false, if_true, not_false_eq_true]
                exact ⟨rfl, fun z => absurd z (by decide)⟩
    · have c1' : zI σ 304 f = 0 := e5.mpr c1
      simp only [c1, c1', if_true, if_false, not_true_eq_false]
      by_cases d1 : w2 = 108
      · subst d1
        refine ⟨hG, fun _ => ⟨f, hf1, rfl, by decide, ?_⟩⟩
        exact hres
      · by_cases d2 : w2 = 104
        · subst d2
          by_cases c2 : zA μ 64 0 f = -1
          · simp only [c2, if_true, if_false, not_true_eq_false]
            exact ⟨rfl, fun z => absurd z (by decide)⟩
          · simp only [c2, if_true, if_false, not_false_eq_true]
            refine ⟨hG, fun _ => ⟨f, hf1, rfl, by decide, ?_⟩⟩
            exact hres
        · by_cases d3 : w2 = 114
          · subst d3
            by_cases c2 : zA μ 64 0 f = -1
            · simp only [c2, if_true, if_false, not_true_eq_false]
              exact ⟨rfl, fun z => absurd z (by decide)⟩
            · simp only [c2, if_true, if_false, not_false_eq_true]
              refine ⟨hG, fun _ => ⟨f, hf1, rfl, by decide, ?_⟩⟩
              exact hres
          · by_cases d4 : w2 = 99
            · subst d4
              refine ⟨hG, fun _ => ⟨f, hf1, rfl, by decide, ?_⟩⟩
              exact hres
            · by_cases d5 : w2 = 115
              · subst d5
                refine ⟨hG, fun _ => ⟨f, hf1, rfl, by decide, ?_⟩⟩
                exact hres
              · simp only [d1, d2, d3, d4, d5, if_false, if_true, not_false_eq_true]
                exact ⟨rfl, fun z => absurd z (by decide)⟩
theorem sm_14 (h : zsim σ μ τ) (hm : ymod μ τ) (hN : zn τ 512 < 512) {w1 w2 : Int32} (h0 : k_ref σ (nI 14) w1 w2 0 0 = 0) : zsim (k_pf σ (nI 14) w1 w2 0 0) (g_14 μ w1 w2) (zt1 τ) ∧ ymod (g_14 μ w1 w2) (zt1 τ) := by
  obtain ⟨f, hf1, rfl, ew, -⟩ := (ok_14 h hm w1 w2).2 h0
  obtain ⟨hn, hg, hmm, hc, he, hw, hh, hp, hr, hl, hf⟩ := id h
  obtain ⟨n1, n2, n3, n4, n5, n6, n7, n8, n9⟩ := id hn
  obtain ⟨mn, md, ms, mw, mk, mp, ml, mx, mf, mz, t0, tc, tf, tx, mb⟩ := id hm
  obtain ⟨b1, b2, b3, b4, b5⟩ := id mn
  have hb2 := b5.2
  rw [show nI 14 = 14 from rfl, k_pf_14]
  show zsim (f_X5_noteCause (zpI σ 512 0 (zI σ 512 0 + 1)) (nI f).toNatClampNeg ((w2.toUInt32 % 65536).toInt32)) _ _ ∧ _
  unfold f_X5_noteCause g_14
  rw [nI_clamp (by omega), ew]
  refine ⟨⟨⟨n1, n2, n3, n4, n5, n6, n7, n8, ?_⟩, hg, hmm, hc, he, hw, hh, hp, hr, hl, ?_⟩, ?_⟩
  · show zI σ 512 0 + 1 = zI τ 512 0 + 1
    rw [n9]
  · intro d hd
    have := hf d hd
    by_cases e : d = f
    · subst e; simp [zI_pI, zI_pL, zI_pA, zL_pI, zL_pL, zL_pA, zA_pI, zA_pL, zA_pA, zt1, this]
    · simp [zI_pI, zI_pL, zI_pA, zL_pI, zL_pL, zL_pA, zA_pI, zA_pL, zA_pA, zt1, e, this]
  · exact ymod_tick hm hN mn md ms mw mk mp ml mx mf mz rfl rfl (fun k hk c => by rcases hk with rfl | rfl | rfl | rfl | rfl | rfl | rfl | rfl | rfl <;> rfl) rfl (Nat.le_succ_of_le mb)
/-! 18: hire -/
def g_18 (μ : zS) (w1 w2 w3 : Int32) : zS := zpA (zpA (zpA μ 38 0 w1.toNatClampNeg 104) 52 0 w1.toNatClampNeg (zI μ 844 0 + w2)) 53 0 w1.toNatClampNeg w3
theorem ok_18 (h : zsim σ μ τ) (hm : ymod μ τ) (w1 w2 w3 : Int32) : (f_X10_hire μ w1 w2 w3 = if k_ref σ (nI 18) w1 w2 w3 0 = 0 then zpI (g_18 μ w1 w2 w3) 838 0 0 else zpI μ 838 0 (zkc [1, 2, 3] (k_ref σ (nI 18) w1 w2 w3 0))) ∧ (k_ref σ (nI 18) w1 w2 w3 0 = 0 → ∃ c, c < zn μ 840 ∧ w1 = nI c ∧ zA μ 38 0 c = 107 ∧ r_X10_hire μ w1 w2 w3 = k_pr σ (nI 18) w1 w2 w3 0) := by
  obtain ⟨hn, hg, hmm, hc, he, hw, hh, hp, hr, hl, hf⟩ := id h
  obtain ⟨n1, n2, n3, n4, n5, n6, n7, n8, n9⟩ := id hn
  obtain ⟨mn, md, ms, mw, mk, mp, ml, mx, mf, mz, t0, tc, tf, tx, mb⟩ := id hm
  obtain ⟨b1, b2, b3, b4, b5⟩ := id mn
  rw [show nI 18 = 18 from rfl, k_ref_18, k_pr_18]
  unfold r_X8_refusalOf_18 r_X8_ofHire f_X10_hire r_X10_hire
  rw [zr_has_c h hm]
  cases h1 : y_has μ 840 w1
  · exact ⟨rfl, fun z => by simp at z⟩
  · obtain ⟨c, hc1, rfl⟩ := yhas_lt b2 (by decide) h1
    have := b2.2
    rw [nI_clamp (by omega), (hc c hc1).1, zr_fit h hm hc1]
    cases h2 : k_in w2 1 30
    · exact ⟨rfl, fun z => by simp at z⟩
    · cases h3 : k_in w3 0 999
      · exact ⟨rfl, fun z => by simp at z⟩
      · by_cases c1 : zA μ 38 0 c = 107
        · simp only [c1, not_true_eq_false, if_true, if_false, Bool.true_eq_false]
          cases h4 : y_fit μ c
          · exact ⟨rfl, fun z => by simp at z⟩
          · refine ⟨?_, fun _ => ⟨c, hc1, rfl, c1, ?_⟩⟩
            · show _ = zpI (g_18 μ (nI c) w2 w3) 838 0 0
              unfold g_18
              rw [nI_clamp (by omega)]
              rfl
            · show zA (zpA (zpA (zpA μ 38 0 c 104) 52 0 c (zI (zpA μ 38 0 c 104) 844 0 + w2)) 53 0 c w3) 52 0 c = r_X5_handOut (zpI σ 512 0 (zI σ 512 0 + 1)) (nI c).toNatClampNeg w2 w3
              unfold r_X5_handOut
              rw [nI_clamp (by omega)]
              simp [zI_pI, zI_pL, zI_pA, zL_pI, zL_pL, zL_pA, zA_pI, zA_pL, zA_pA, n6]
        · simp only [c1, not_false_eq_true, if_true, if_false, Bool.true_eq_false]
          exact ⟨rfl, fun z => absurd z (by decide)⟩
theorem sm_18 (h : zsim σ μ τ) (hm : ymod μ τ) (hN : zn τ 512 < 512) {w1 w2 w3 : Int32} (h0 : k_ref σ (nI 18) w1 w2 w3 0 = 0) : zsim (k_pf σ (nI 18) w1 w2 w3 0) (g_18 μ w1 w2 w3) (zt1 τ) ∧ ymod (g_18 μ w1 w2 w3) (zt1 τ) := by
  obtain ⟨c, hc1, rfl, h3, -⟩ := (ok_18 h hm w1 w2 w3).2 h0
  obtain ⟨hn, hg, hmm, hc, he, hw, hh, hp, hr, hl, hf⟩ := id h
  obtain ⟨n1, n2, n3, n4, n5, n6, n7, n8, n9⟩ := id hn
  obtain ⟨mn, md, ms, mw, mk, mp, ml, mx, mf, mz, t0, tc, tf, tx, mb⟩ := id hm
  obtain ⟨b1, b2, b3, b4, b5⟩ := id mn
  have hb2 := b2.2
  rw [show nI 18 = 18 from rfl, k_pf_18]
  show zsim (f_X5_handOut (zpI σ 512 0 (zI σ 512 0 + 1)) (nI c).toNatClampNeg w2 w3) _ _ ∧ _
  unfold f_X5_handOut g_18
  rw [nI_clamp (by omega)]
  refine ⟨⟨⟨n1, n2, n3, n4, n5, n6, n7, n8, ?_⟩, hg, hmm, ?_, he, ?_, ?_, hp, hr, hl, hf⟩, ?_⟩
  · show zI σ 512 0 + 1 = zI τ 512 0 + 1
    rw [n9]
  · intro d hd
    have := hc d hd
    by_cases e : d = c
    · subst e; simp [zI_pI, zI_pL, zI_pA, zL_pI, zL_pL, zL_pA, zA_pI, zA_pL, zA_pA, zt1, this]
    · simp [zI_pI, zI_pL, zI_pA, zL_pI, zL_pL, zL_pA, zA_pI, zA_pL, zA_pA, zt1, e, this]
  · intro d hd
    have := hw d hd
    by_cases e : d = c
    · subst e
      have w := this.2 (by rw [h3]; decide)
      refine ⟨fun z => ?_, fun z => by simp [zI_pI, zI_pL, zI_pA, zL_pI, zL_pL, zL_pA, zA_pI, zA_pL, zA_pA, w]⟩
      simp [zI_pI, zI_pL, zI_pA, zL_pI, zL_pL, zL_pA, zA_pI, zA_pL, zA_pA] at z
    · simpa [zI_pI, zI_pL, zI_pA, zL_pI, zL_pL, zL_pA, zA_pI, zA_pL, zA_pA, e] using this
  · intro d hd
    have := hh d hd
    by_cases e : d = c
    · subst e
      refine ⟨fun z => by simp [zI_pI, zI_pL, zI_pA, zL_pI, zL_pL, zL_pA, zA_pI, zA_pL, zA_pA, n6], fun z => absurd (by simp [zI_pI, zI_pL, zI_pA, zL_pI, zL_pL, zL_pA, zA_pI, zA_pL, zA_pA]) z⟩
    · simpa [zI_pI, zI_pL, zI_pA, zL_pI, zL_pL, zL_pA, zA_pI, zA_pL, zA_pA, e] using this
  · refine ymod_tick hm hN mn md (ms_st (c := c) ms rfl (fun d hd => by simp [zI_pI, zI_pL, zI_pA, zL_pI, zL_pL, zL_pA, zA_pI, zA_pL, zA_pA, hd]) (by simp [zI_pI, zI_pL, zI_pA, zL_pI, zL_pL, zL_pA, zA_pI, zA_pL, zA_pA])) ?_ (mk_st (c := c) mk rfl rfl (fun i => rfl) (fun d hd => by simp [zI_pI, zI_pL, zI_pA, zL_pI, zL_pL, zL_pA, zA_pI, zA_pL, zA_pA, hd]) (fun z => by simp [y_ready, h3])) mp (ml_st (c := c) ml (by rw [h3]; decide) rfl rfl (fun k hk i => by rcases hk with rfl | rfl | rfl | rfl | rfl <;> rfl) (fun d hd => by simp [zI_pI, zI_pL, zI_pA, zL_pI, zL_pL, zL_pA, zA_pI, zA_pL, zA_pA, hd])) (mx_st mx rfl (fun k hk i => by rcases hk with rfl | rfl | rfl | rfl | rfl <;> rfl)) mf (mz_st (c := c) hc1 mz rfl rfl rfl (fun k hk d hd => by rcases hk with rfl | rfl | rfl | rfl | rfl | rfl | rfl | rfl <;> simp [zI_pI, zI_pL, zI_pA, zL_pI, zL_pL, zL_pA, zA_pI, zA_pL, zA_pA, hd]) (fun k hk d hd => by rcases hk with rfl | rfl <;> rfl) (fun d hd => rfl)) rfl rfl (fun k hk c => by rcases hk with rfl | rfl | rfl | rfl | rfl | rfl | rfl | rfl | rfl <;> rfl) rfl (mb_st (c := c) hc1 mb rfl rfl (fun d hd => by simp [y_wk, zI_pI, zI_pL, zI_pA, zL_pI, zL_pL, zL_pA, zA_pI, zA_pL, zA_pA, hd]) (by simp [y_wk, zI_pI, zI_pL, zI_pA, zL_pI, zL_pL, zL_pA, zA_pI, zA_pL, zA_pA]))
    intro d hd z
    by_cases e : d = c
    · subst e; simp [zI_pI, zI_pL, zI_pA, zL_pI, zL_pL, zL_pA, zA_pI, zA_pL, zA_pA] at z
    · have := mw d hd (by simpa [zI_pI, zI_pL, zI_pA, zL_pI, zL_pL, zL_pA, zA_pI, zA_pL, zA_pA, e] using z)
      simpa [zI_pI, zI_pL, zI_pA, zL_pI, zL_pL, zL_pA, zA_pI, zA_pL, zA_pA, e] using this
end ZAF
