section ZAO
variable {σ μ τ : zS}
def g_6 (μ : zS) (w1 w2 : Int32) : zS := if zA μ 40 0 w1.toNatClampNeg = 4 then y_fin (g_6a μ w1.toNatClampNeg 4 w2.toNatClampNeg) w1.toNatClampNeg (zn μ 841) else g_6a μ w1.toNatClampNeg (zA μ 40 0 w1.toNatClampNeg).toNatClampNeg w2.toNatClampNeg
theorem nI_4 {k : Nat} (hk : k ≤ 4) : (nI k = 4 ↔ k = 4) ∧ (nI (k + 1) = 5 ↔ k = 4) := by
  rcases (show k = 0 ∨ k = 1 ∨ k = 2 ∨ k = 3 ∨ k = 4 by omega) with rfl | rfl | rfl | rfl | rfl <;> decide
theorem fin_40 (μ : zS) (c np d : Nat) : zA (y_fin μ c np) 40 0 d = zA μ 40 0 d := by
  unfold y_fin
  simp [zI_pI, zI_pL, zI_pA, zL_pI, zL_pL, zL_pA, zA_pI, zA_pL, zA_pA]
theorem fx_6 {c k g : Nat} (hc : c < 24) (hg : g < 8) (hnp : zn μ 841 < 86) (b3 : zbd μ 841 86) (h1 : y_has μ 840 (nI c) = true) (h2 : y_has μ 839 (nI g) = true) (s : zA μ 38 0 c = 112) (e40 : zA μ 40 0 c = nI k) (hk : k ≤ 4) (may : y_may μ g (nI k) = true) (ne : k = 4 → ¬ zA μ 54 0 (5 * c + 3) = nI g) : f_X10_step μ (nI c) (nI g) = zpI (g_6 μ (nI c) (nI g)) 838 0 0 ∧ r_X10_step μ (nI c) (nI g) = nI (k + 1) := by
  have ec : (nI c).toNatClampNeg = c := nI_clamp (by omega)
  have eg : (nI g).toNatClampNeg = g := nI_clamp (by omega)
  have ek : (nI k).toNatClampNeg = k := nI_clamp (by omega)
  have p1 : ¬ y_has μ 840 (nI c) = false := by rw [h1]; decide
  have p3 : ¬ y_may μ g (nI k) = false := by rw [may]; decide
  have i1 : ((5 : Int32) * nI c + nI k).toNatClampNeg = 5 * c + k := y5n (by omega) (by omega)
  have i3 : ((5 : Int32) * nI c + 3).toNatClampNeg = 5 * c + 3 := y5n (j := 3) (by omega) (by decide)
  have hS1 : zA (zpA μ 54 0 (5 * c + k) (nI g)) 40 0 c = nI k := by rw [zA_pA, if_neg (fun z => absurd z.1 (by decide)), e40]
  have hS2 : zpA (zpA μ 54 0 (5 * c + k) (nI g)) 40 0 c (nI (k + 1)) = g_6a μ c k g := rfl
  have hS3 : zA (g_6a μ c k g) 40 0 c = nI (k + 1) := by
    unfold g_6a
    rw [zA_pA, if_pos ⟨rfl, rfl, rfl⟩]
  have e841 : zI (g_6a μ c k g) 841 0 = nI (zn μ 841) := b3.1
  have hfin : f_X10_finishes (g_6a μ c k g) (nI c) = y_fin (g_6a μ c k g) c (zn μ 841) := fin_eq hc hnp e841
  have hS4 : zA (y_fin (g_6a μ c k g) c (zn μ 841)) 40 0 c = nI (k + 1) := by rw [fin_40, hS3]
  unfold f_X10_step r_X10_step g_6
  rw [if_neg p1, if_pos h2, if_neg p1, if_pos h2, ec, eg, e40, ek, if_pos s, if_pos s, if_neg p3, if_neg p3, i1, i3, hS1, nI_1, hS2, hS3, hfin, hS4]
  by_cases k4 : k = 4
  · have q1 := (nI_4 hk).1.mpr k4
    have q2 := (nI_4 hk).2.mpr k4
    rw [if_neg (not_not_intro q1), if_neg (not_not_intro q1), if_pos (ne k4), if_pos (ne k4), if_neg (not_not_intro q2), if_neg (not_not_intro q2), if_pos q1]
    subst k4
    exact ⟨rfl, rfl⟩
  · have q1 : ¬ nI k = 4 := fun z => k4 ((nI_4 hk).1.mp z)
    have q2 : ¬ nI (k + 1) = 5 := fun z => k4 ((nI_4 hk).2.mp z)
    rw [if_pos q1, if_pos q1, if_pos q2, if_pos q2, if_neg q1]
    exact ⟨rfl, rfl⟩
theorem np_lt (hm : ymod μ τ) (hN : zn τ 512 < 512) : zn μ 841 < 86 := by
  obtain ⟨mn, md, ms, mw, mk, mp, ml, mx, mf, mz, t0, tc, tf, tx, mb⟩ := id hm
  obtain ⟨b1, b2, b3, b4, b5⟩ := id mn
  unfold ym_b at mb
  omega
theorem ok_6 (h : zsim σ μ τ) (hm : ymod μ τ) (hN : zn τ 512 < 512) (w1 w2 : Int32) : (f_X10_step μ w1 w2 = if k_ref σ (nI 6) w1 w2 0 0 = 0 then zpI (g_6 μ w1 w2) 838 0 0 else zpI μ 838 0 (zkc [1, 3, 2] (k_ref σ (nI 6) w1 w2 0 0))) ∧ (k_ref σ (nI 6) w1 w2 0 0 = 0 → r_X10_step μ w1 w2 = k_pr σ (nI 6) w1 w2 0 0 ∧ ∃ c k g, c < zn μ 840 ∧ k ≤ 4 ∧ g < 8 ∧ w1 = nI c ∧ w2 = nI g ∧ zA μ 38 0 c = 112 ∧ zA μ 40 0 c = nI k) := by
  obtain ⟨hn, hg, hmm, hc, he, hw, hh, hp, hr, hl, hf⟩ := id h
  obtain ⟨n1, n2, n3, n4, n5, n6, n7, n8, n9⟩ := id hn
  obtain ⟨mn, md, ms, mw, mk, mp, ml, mx, mf, mz, t0, tc, tf, tx, mb⟩ := id hm
  obtain ⟨b1, b2, b3, b4, b5⟩ := id mn
  have hnp := np_lt hm hN
  rw [show nI 6 = 6 from rfl, k_ref_6, k_pr_6]
  unfold r_X8_refusalOf_6 r_X8_ofStep
  rw [zr_has_c h hm, zr_has_r h hm]
  have tf : ¬ (true = false) := by decide
  have ft : ¬ (false = true) := by decide
  have dead : ∀ (k : Nat) {v : Int32} {P : Prop} {X : zS}, ¬ k = 0 → f_X10_step μ w1 w2 = zpI μ 838 0 v → v = zkc [1, 3, 2] k → (f_X10_step μ w1 w2 = if k = 0 then X else zpI μ 838 0 (zkc [1, 3, 2] k)) ∧ (k = 0 → P) := fun k v P X n0 e1 e2 => ⟨by rw [if_neg n0, e1, e2], fun z => absurd z n0⟩
  cases h1 : y_has μ 840 w1
  · rw [if_pos rfl]
    exact dead 1 (by decide) (by unfold f_X10_step; rw [if_pos h1]; rfl) (by decide)
  cases h2 : y_has μ 839 w2
  · rw [if_neg tf, if_neg ft]
    exact dead 1 (by decide) (by unfold f_X10_step; rw [if_neg (by rw [h1]; decide), if_neg (by rw [h2]; decide)]; rfl) (by decide)
  rw [if_neg tf, if_pos rfl]
  have hb2 := b2.2
  have hb1 := b1.2
  obtain ⟨c, hc1, rfl⟩ := yhas_lt b2 (by decide) h1
  obtain ⟨g, hg1, rfl⟩ := yhas_lt b1 (by decide) h2
  have ec : (nI c).toNatClampNeg = c := nI_clamp (by omega)
  have eg : (nI g).toNatClampNeg = g := nI_clamp (by omega)
  have p1 : ¬ y_has μ 840 (nI c) = false := by rw [h1]; decide
  rw [ec, eg, (hc c hc1).1]
  by_cases s : zA μ 38 0 c = 112
  rotate_left
  · rw [if_pos s]
    exact dead 3 (by decide) (by unfold f_X10_step; rw [if_neg p1, if_pos h2, ec, if_neg s]; rfl) (by decide)
  obtain ⟨-, k, hk, e40, hq⟩ := mw c hc1 s
  obtain ⟨-, e107, h12⟩ := (hw c hc1).1 s
  have kin : k_in (nI k) 0 4 = true := by
    rcases (show k = 0 ∨ k = 1 ∨ k = 2 ∨ k = 3 ∨ k = 4 by omega) with rfl | rfl | rfl | rfl | rfl <;> decide
  rw [if_neg (not_not_intro s), e107, e40, if_pos kin, zr_may h hg1]
  cases may : y_may μ g (nI k)
  · rw [if_neg ft]
    exact dead 2 (by decide) (by unfold f_X10_step; rw [if_neg p1, if_pos h2, ec, if_pos s, eg, e40, if_pos may]; rfl) (by decide)
  rw [if_pos (show (true = true) from rfl)]
  have c3 : k = 4 → zA σ 12 c (3 : Int32).toNatClampNeg = zA μ 54 0 (5 * c + 3) := fun z => by
    have := h12 3 (by rw [e40, nI_clamp (by omega)]; omega)
    exact this
  by_cases k4 : k = 4 ∧ zA μ 54 0 (5 * c + 3) = nI g
  · obtain ⟨z1, z2⟩ := k4
    rw [if_neg (not_not_intro ((nI_4 hk).1.mpr z1)), if_neg (not_not_intro ((c3 z1).trans z2))]
    have i3 : ((5 : Int32) * nI c + 3).toNatClampNeg = 5 * c + 3 := y5n (j := 3) (by omega) (by decide)
    exact dead 2 (by decide) (by unfold f_X10_step; rw [if_neg p1, if_pos h2, ec, if_pos s, eg, e40, if_neg (by rw [may]; decide), if_neg (not_not_intro ((nI_4 hk).1.mpr z1)), i3, if_neg (not_not_intro z2)]; rfl) (by decide)
  · have e0 : (if ¬ nI k = 4 then 0 else if ¬ zA σ 12 c (3 : Int32).toNatClampNeg = nI g then 0 else 2) = 0 := by
      by_cases z1 : k = 4
      · rw [if_neg (not_not_intro ((nI_4 hk).1.mpr z1)), if_pos (fun z => k4 ⟨z1, (c3 z1).symm.trans z⟩)]
      · rw [if_pos (fun z => z1 ((nI_4 hk).1.mp z))]
    obtain ⟨x1, x2⟩ := fx_6 (by omega) (by omega) hnp b3 h1 h2 s e40 hk may (fun z1 z2 => k4 ⟨z1, z2⟩)
    rw [e0, if_pos rfl, x1, x2]
    refine ⟨rfl, fun _ => ⟨?_, c, k, g, hc1, hk, by omega, rfl, rfl, s, e40⟩⟩
    unfold r_X5_perform_6
    exact (ds_eq (zpI σ 512 0 (zI σ 512 0 + 1)) (nI g) ec (show zI (zpI σ 512 0 (zI σ 512 0 + 1)) 107 c = nI k from e107.trans e40) (by omega)).2.symm
/-- a step that does not finish -/
theorem sm_6a (h : zsim σ μ τ) (hm : ymod μ τ) (hN : zn τ 512 < 512) {c k g : Nat} (hc1 : c < zn μ 840) (hk : k < 4) (hg8 : g < 8) (s : zA μ 38 0 c = 112) (e40 : zA μ 40 0 c = nI k) : zsim (s_6a (zpI σ 512 0 (zI σ 512 0 + 1)) c k (nI g)) (g_6a μ c k g) (zt1 τ) ∧ ymod (g_6a μ c k g) (zt1 τ) := by
  obtain ⟨hn, hg, hmm, hc, he, hw, hh, hp, hr, hl, hf⟩ := id h
  obtain ⟨n1, n2, n3, n4, n5, n6, n7, n8, n9⟩ := id hn
  obtain ⟨mn, md, ms, mw, mk, mp, ml, mx, mf, mz, t0, tc, tf, tx, mb⟩ := id hm
  obtain ⟨b1, b2, b3, b4, b5⟩ := id mn
  have hb2 := b2.2
  have ek : (zA μ 40 0 c).toNatClampNeg = k := by rw [e40, nI_clamp (by omega)]
  have g40 : zA (g_6a μ c k g) 40 0 c = nI (k + 1) := by unfold g_6a; simp [zI_pI, zI_pL, zI_pA, zL_pI, zL_pL, zL_pA, zA_pI, zA_pL, zA_pA]
  have g40o : ∀ d, d ≠ c → zA (g_6a μ c k g) 40 0 d = zA μ 40 0 d := fun d hd => by unfold g_6a; simp [zI_pI, zI_pL, zI_pA, zL_pI, zL_pL, zL_pA, zA_pI, zA_pL, zA_pA, hd]
  have g54 : zA (g_6a μ c k g) 54 0 (5 * c + k) = nI g := by unfold g_6a; simp [zI_pI, zI_pL, zI_pA, zL_pI, zL_pL, zL_pA, zA_pI, zA_pL, zA_pA]
  have g54o : ∀ d, d ≠ 5 * c + k → zA (g_6a μ c k g) 54 0 d = zA μ 54 0 d := fun d hd => by unfold g_6a; simp [zI_pI, zI_pL, zI_pA, zL_pI, zL_pL, zL_pA, zA_pI, zA_pL, zA_pA, hd]
  refine ⟨⟨⟨n1, n2, n3, n4, n5, n6, n7, n8, ?_⟩, hg, hmm, hc, he, fun d hd => ?_, hh, hp, hr, hl, hf⟩, ?_⟩
  · show zI σ 512 0 + 1 = zI τ 512 0 + 1
    rw [n9]
  · have hd : d < zn μ 840 := hd
    have w := hw d hd
    by_cases e : d = c
    · subst e
      refine ⟨fun _ => ?_, fun z => absurd s z⟩
      obtain ⟨w1, w2, w3⟩ := w.1 s
      refine ⟨w1, ?_, fun q hq => ?_⟩
      · rw [g40]; unfold s_6a; simp [zI_pI, zI_pL, zI_pA, zL_pI, zL_pL, zL_pA, zA_pI, zA_pL, zA_pA]
      · rw [g40, nI_clamp (by omega)] at hq
        by_cases e3 : q = k
        · subst e3
          rw [g54]; unfold s_6a; simp [zI_pI, zI_pL, zI_pA, zL_pI, zL_pL, zL_pA, zA_pI, zA_pL, zA_pA]
        · rw [g54o _ (by omega)]
          have := w3 q (by omega)
          unfold s_6a
          simpa [zI_pI, zI_pL, zI_pA, zL_pI, zL_pL, zL_pA, zA_pI, zA_pL, zA_pA, e3] using this
    · refine ⟨fun z => ?_, fun z => ?_⟩
      · obtain ⟨w1, w2, w3⟩ := w.1 z
        have z' : zA μ 38 0 d = 112 := z
        obtain ⟨-, kd, hkd, ed, -⟩ := mw d hd z'
        refine ⟨w1, ?_, fun q hq => ?_⟩
        · rw [g40o d e]; unfold s_6a; simpa [zI_pI, zI_pL, zI_pA, zL_pI, zL_pL, zL_pA, zA_pI, zA_pL, zA_pA, e] using w2
        · rw [g40o d e] at hq
          have hq5 : q < 5 := by
            rw [ed, nI_clamp (by omega)] at hq
            omega
          rw [g54o _ (by omega)]
          have := w3 q hq
          unfold s_6a
          simpa [zI_pI, zI_pL, zI_pA, zL_pI, zL_pL, zL_pA, zA_pI, zA_pL, zA_pA, e] using this
      · have := w.2 z
        unfold s_6a
        simpa [zI_pI, zI_pL, zI_pA, zL_pI, zL_pL, zL_pA, zA_pI, zA_pL, zA_pA, e] using this
  · refine ymod_tick hm hN mn md ms (fun d hd z => ?_) mk mp ml mx mf mz rfl rfl (fun k hk c => by rcases hk with rfl | rfl | rfl | rfl | rfl | rfl | rfl | rfl | rfl <;> rfl) rfl (mb_st (c := c) hc1 mb rfl rfl (fun d hd => ?_) ?_)
    · have hd : d < zn μ 840 := hd
      have z : zA μ 38 0 d = 112 := z
      obtain ⟨w1, kd, hkd, ed, wq⟩ := mw d hd z
      by_cases e : d = c
      · subst e
        have : kd = k := by
          rw [e40] at ed
          have := congrArg Int32.toNatClampNeg ed
          rw [nI_clamp (by omega), nI_clamp (by omega)] at this
          exact this.symm
        subst this
        refine ⟨w1, kd + 1, by omega, g40, fun q hq => ?_⟩
        by_cases e3 : q = kd
        · subst e3
          exact ⟨g, hg8, g54⟩
        · rw [g54o _ (by omega)]
          exact wq q (by omega)
      · refine ⟨w1, kd, hkd, by rw [g40o d e]; exact ed, fun q hq => ?_⟩
        rw [g54o _ (by omega)]
        exact wq q hq
    · unfold y_wk
      rw [g40o d hd]
      rfl
    · unfold y_wk
      rw [g40, ek, nI_clamp (by omega)]
      show (if zA μ 38 0 c = 112 then 1 + (k + 1) else 0) ≤ (if zA μ 38 0 c = 112 then 1 + k else 0) + 1
      rw [if_pos s, if_pos s]
      omega
end ZAO
