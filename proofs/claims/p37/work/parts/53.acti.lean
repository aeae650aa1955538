section ZAL
variable {σ μ τ : zS}
/-! 9: board -/
def g_9b (μ : zS) (l a m r : Nat) : zS := zpA (zpA (zpA (zpA (zpA μ 61 0 (6 * l + a) (nI m)) 62 0 (6 * l + a) (nI r)) 38 0 m 97) 38 0 r 97) 59 0 l (nI (a + 1))
def s_9b (σ : zS) (l a m r : Nat) : zS := zpI (zpI (zpI (zpA (zpA σ 14 l a (nI m)) 15 l a (nI r)) 400 l (nI (a + 1))) 105 m 97) 105 r 97
def g_9 (μ : zS) (w1 w2 w3 : Int32) : zS := g_9b μ w1.toNatClampNeg (zA μ 59 0 w1.toNatClampNeg).toNatClampNeg w2.toNatClampNeg w3.toNatClampNeg
theorem fx_9 {l a m r : Nat} (hl : l < 30) (ha : a < 6) (hm24 : m < 24) (hr24 : r < 24) (ea : zA μ 59 0 l = nI a) (h1 : y_has μ 842 (nI l) = true) (h2 : y_has μ 840 (nI m) = true) (h3 : y_has μ 840 (nI r) = true) (k1 : zA μ 33 0 m = 109) (k2 : zA μ 33 0 r = 114) (s1 : zA μ 38 0 m = 107) (s2 : zA μ 38 0 r = 107) (f1 : y_fit μ m = true) (f2 : y_fit μ r = true) (e60 : ¬ zA μ 60 0 l = 1) : f_X10_board μ (nI l) (nI m) (nI r) = zpI (g_9b μ l a m r) 838 0 0 ∧ r_X10_board μ (nI l) (nI m) (nI r) = nI (a + 1) := by
  have e6 : ((6 : Int32) * nI l + nI a).toNatClampNeg = 6 * l + a := by
    have := y6c (x := nI l) (vp_in_nI hl (by decide)) ha
    rw [this, nI_clamp (by omega)]
  have c1 : ¬ zA μ 59 0 l = 6 := fun z => by
    rw [ea] at z
    have := congrArg Int32.toNatClampNeg z
    rw [nI_clamp (by omega), show (6 : Int32) = nI 6 from rfl, nI_clamp (by omega)] at this
    omega
  have el : (nI l).toNatClampNeg = l := nI_clamp (by omega)
  have em : (nI m).toNatClampNeg = m := nI_clamp (by omega)
  have er : (nI r).toNatClampNeg = r := nI_clamp (by omega)
  have p1 : ¬ y_has μ 842 (nI l) = false := by rw [h1]; decide
  have p2 : ¬ y_has μ 840 (nI m) = false := by rw [h2]; decide
  have p3 : ¬ y_fit μ m = false := by rw [f1]; decide
  have p4 : ¬ y_fit μ r = false := by rw [f2]; decide
  have e59 : ∀ j v, zA (zpA μ 61 0 j v) 59 0 l = nI a := fun j v => by rw [zA_pA, if_neg (fun z => absurd z.1 (by decide))]; exact ea
  have e59b : ∀ j v j' v' d x d' x', zA (zpA (zpA (zpA (zpA μ 61 0 j v) 62 0 j' v') 38 0 d x) 38 0 d' x') 59 0 l = nI a := fun j v j' v' d x d' x' => by
    rw [zA_pA, if_neg (fun z => absurd z.1 (by decide)), zA_pA, if_neg (fun z => absurd z.1 (by decide)), zA_pA, if_neg (fun z => absurd z.1 (by decide))]
    exact e59 j v
  refine ⟨?_, ?_⟩
  · unfold f_X10_board
    rw [if_neg p1, if_neg p2, if_pos h3, el, em, er, if_neg (not_not_intro k1), if_pos k2, if_neg (not_not_intro s1), if_neg (not_not_intro s2), if_neg p3, if_neg p4, if_pos e60, if_pos c1]
    unfold f_X10_tell g_9b
    rw [ea, e6, e59, e6, e59b, nI_1]
  · unfold r_X10_board
    rw [if_neg p1, if_neg p2, if_pos h3, el, em, er, if_neg (not_not_intro k1), if_pos k2, if_neg (not_not_intro s1), if_neg (not_not_intro s2), if_neg p3, if_neg p4, if_pos e60, if_pos c1]
    unfold r_X10_tell
    rw [zA_pA, if_pos ⟨rfl, rfl, rfl⟩, ea, e6, e59, e6, e59b, nI_1]
theorem r9_eq (σ : zS) {l a : Nat} (x y : Int32) (ea : zI σ 400 l = nI a) : r_X5_putAboard σ l x y = nI (a + 1) := by
  unfold r_X5_putAboard
  rw [zI_pI, if_neg (fun z => absurd z.1 (by decide)), zI_pI, if_neg (fun z => absurd z.1 (by decide)), zI_pI, if_pos ⟨rfl, rfl⟩, zI_pA, zI_pA, ea, nI_1]
theorem f9_eq (σ : zS) {l a m r : Nat} (ea : zI σ 400 l = nI a) (ac : (nI a).toNatClampNeg = a) (em : (nI m).toNatClampNeg = m) (er : (nI r).toNatClampNeg = r) : f_X5_putAboard σ l (nI m) (nI r) = s_9b σ l a m r := by
  unfold f_X5_putAboard s_9b
  rw [zI_pA, zI_pA, zI_pA, ea, ac, em, er, nI_1]
theorem ok_9 (h : zsim σ μ τ) (hm : ymod μ τ) (w1 w2 w3 : Int32) : (f_X10_board μ w1 w2 w3 = if k_ref σ (nI 9) w1 w2 w3 0 = 0 then zpI (g_9 μ w1 w2 w3) 838 0 0 else zpI μ 838 0 (zkc [1, 2, 3, 4] (k_ref σ (nI 9) w1 w2 w3 0))) ∧ (k_ref σ (nI 9) w1 w2 w3 0 = 0 → r_X10_board μ w1 w2 w3 = k_pr σ (nI 9) w1 w2 w3 0 ∧ ∃ l a m r, l < zn μ 842 ∧ w1 = nI l ∧ w2 = nI m ∧ w3 = nI r ∧ a < 6 ∧ zA μ 59 0 l = nI a ∧ zA μ 60 0 l = 0 ∧ m < zn μ 840 ∧ r < zn μ 840 ∧ zA μ 33 0 m = 109 ∧ zA μ 33 0 r = 114 ∧ zA μ 38 0 m = 107 ∧ zA μ 38 0 r = 107 ∧ g_9 μ w1 w2 w3 = g_9b μ l a m r ∧ k_pf σ (nI 9) w1 w2 w3 0 = s_9b (zpI σ 512 0 (zI σ 512 0 + 1)) l a m r) := by
  obtain ⟨hn, hg, hmm, hc, he, hw, hh, hp, hr, hl, hf⟩ := id h
  obtain ⟨n1, n2, n3, n4, n5, n6, n7, n8, n9⟩ := id hn
  obtain ⟨mn, md, ms, mw, mk, mp, ml, mx, mf, mz, t0, tc, tf, tx, mb⟩ := id hm
  obtain ⟨b1, b2, b3, b4, b5⟩ := id mn
  rw [show nI 9 = 9 from rfl, k_ref_9, k_pr_9, k_pf_9]
  unfold r_X8_refusalOf_9 r_X8_ofBoard
  rw [zr_has_l h hm, zr_has_c h hm, zr_has_c h hm]
  have tf : ¬ (true = false) := by decide
  have ft : ¬ (false = true) := by decide
  have dead : ∀ (k : Nat) {v : Int32} {P : Prop} {X : zS}, ¬ k = 0 → f_X10_board μ w1 w2 w3 = zpI μ 838 0 v → v = zkc [1, 2, 3, 4] k → (f_X10_board μ w1 w2 w3 = if k = 0 then X else zpI μ 838 0 (zkc [1, 2, 3, 4] k)) ∧ (k = 0 → P) := fun k v P X n0 e1 e2 => ⟨by rw [if_neg n0, e1, e2], fun z => absurd z n0⟩
  cases h1 : y_has μ 842 w1
  · rw [if_pos rfl]
    exact dead 1 (by decide) (by unfold f_X10_board; rw [if_pos h1]; rfl) (by decide)
  cases h2 : y_has μ 840 w2
  · rw [if_neg tf, if_pos rfl]
    exact dead 1 (by decide) (by unfold f_X10_board; rw [if_neg (by rw [h1]; decide), if_pos h2]; rfl) (by decide)
  cases h3 : y_has μ 840 w3
  · rw [if_neg tf, if_neg tf, if_neg ft]
    exact dead 1 (by decide) (by unfold f_X10_board; rw [if_neg (by rw [h1]; decide), if_neg (by rw [h2]; decide), if_neg (by rw [h3]; decide)]; rfl) (by decide)
  rw [if_neg tf, if_neg tf, if_pos rfl]
  have hb2 := b2.2
  have hb4 := b4.2
  obtain ⟨l, hl1, rfl⟩ := yhas_lt b4 (by decide) h1
  obtain ⟨m, hm1, rfl⟩ := yhas_lt b2 (by decide) h2
  obtain ⟨r, hr1, rfl⟩ := yhas_lt b2 (by decide) h3
  have el : (nI l).toNatClampNeg = l := nI_clamp (by omega)
  have em : (nI m).toNatClampNeg = m := nI_clamp (by omega)
  have er : (nI r).toNatClampNeg = r := nI_clamp (by omega)
  have p1 : ¬ y_has μ 842 (nI l) = false := by rw [h1]; decide
  have p2 : ¬ y_has μ 840 (nI m) = false := by rw [h2]; decide
  obtain ⟨z1, z2, z3⟩ := hl l hl1
  obtain ⟨a, ha, ea, e60, hq⟩ := ml l hl1
  rw [el, em, er, (hmm m hm1).1, (hmm r hr1).1, (hc m hm1).1, (hc r hr1).1, z1, z2, zr_fit h hm hm1, zr_fit h hm hr1]
  by_cases k1 : zA μ 33 0 m = 109
  rotate_left
  · rw [if_pos k1]
    exact dead 2 (by decide) (by unfold f_X10_board; rw [if_neg p1, if_neg p2, if_pos h3, em, if_pos k1]; rfl) (by decide)
  rw [if_neg (not_not_intro k1)]
  by_cases k2 : zA μ 33 0 r = 114
  rotate_left
  · rw [if_neg k2]
    exact dead 2 (by decide) (by unfold f_X10_board; rw [if_neg p1, if_neg p2, if_pos h3, em, er, if_neg (not_not_intro k1), if_neg k2]; rfl) (by decide)
  rw [if_pos k2]
  by_cases s1 : zA μ 38 0 m = 107
  rotate_left
  · rw [if_pos s1]
    exact dead 3 (by decide) (by unfold f_X10_board; rw [if_neg p1, if_neg p2, if_pos h3, em, er, if_neg (not_not_intro k1), if_pos k2, if_pos s1]; rfl) (by decide)
  rw [if_neg (not_not_intro s1)]
  by_cases s2 : zA μ 38 0 r = 107
  rotate_left
  · rw [if_pos s2]
    exact dead 3 (by decide) (by unfold f_X10_board; rw [if_neg p1, if_neg p2, if_pos h3, em, er, if_neg (not_not_intro k1), if_pos k2, if_neg (not_not_intro s1), if_pos s2]; rfl) (by decide)
  rw [if_neg (not_not_intro s2)]
  cases f1 : y_fit μ m
  · have e3 : (if zA μ 60 0 l = 0 then if false = false then 3 else if y_fit μ r = true then if 6 ≤ zA μ 59 0 l then 4 else 0 else 3 else 3) = 3 := by split <;> rfl
    rw [e3]
    exact dead 3 (by decide) (by unfold f_X10_board; rw [if_neg p1, if_neg p2, if_pos h3, em, er, if_neg (not_not_intro k1), if_pos k2, if_neg (not_not_intro s1), if_neg (not_not_intro s2), if_pos f1]; rfl) (by decide)
  cases f2 : y_fit μ r
  · have e3 : (if zA μ 60 0 l = 0 then if true = false then 3 else if false = true then if 6 ≤ zA μ 59 0 l then 4 else 0 else 3 else 3) = 3 := by split <;> rfl
    rw [e3]
    exact dead 3 (by decide) (by unfold f_X10_board; rw [if_neg p1, if_neg p2, if_pos h3, em, er, if_neg (not_not_intro k1), if_pos k2, if_neg (not_not_intro s1), if_neg (not_not_intro s2), if_neg (by rw [f1]; decide), if_pos f2]; rfl) (by decide)
  rw [if_neg (show ¬ (true = false) by decide), if_pos (show (true = true) from rfl)]
  rcases e60 with c2 | c2
  rotate_left
  · rw [if_neg (show ¬ zA μ 60 0 l = 0 by rw [c2]; decide)]
    exact dead 3 (by decide) (by unfold f_X10_board; rw [if_neg p1, if_neg p2, if_pos h3, em, er, if_neg (not_not_intro k1), if_pos k2, if_neg (not_not_intro s1), if_neg (not_not_intro s2), if_neg (by rw [f1]; decide), if_neg (by rw [f2]; decide), el, if_neg (not_not_intro c2)]; rfl) (by decide)
  rw [if_pos c2]
  have c3 : ¬ zA μ 60 0 l = 1 := by rw [c2]; decide
  rcases Nat.lt_or_ge a 6 with a6 | a6
  rotate_left
  · have ea6 : zA μ 59 0 l = 6 := by rw [ea, show a = 6 by omega]; rfl
    rw [if_pos (show (6 : Int32) ≤ zA μ 59 0 l by rw [ea6]; decide)]
    exact dead 4 (by decide) (by unfold f_X10_board; rw [if_neg p1, if_neg p2, if_pos h3, em, er, if_neg (not_not_intro k1), if_pos k2, if_neg (not_not_intro s1), if_neg (not_not_intro s2), if_neg (by rw [f1]; decide), if_neg (by rw [f2]; decide), el, if_pos c3, if_neg (not_not_intro ea6)]; rfl) (by decide)
  have n6' : ¬ (6 : Int32) ≤ zA μ 59 0 l := by
    rw [ea]
    rcases (show a = 0 ∨ a = 1 ∨ a = 2 ∨ a = 3 ∨ a = 4 ∨ a = 5 by omega) with rfl | rfl | rfl | rfl | rfl | rfl <;> decide
  obtain ⟨x1, x2⟩ := fx_9 (by omega) a6 (by omega) (by omega) ea h1 h2 h3 k1 k2 s1 s2 f1 f2 c3
  have eg : g_9 μ (nI l) (nI m) (nI r) = g_9b μ l a m r := by
    unfold g_9
    rw [el, em, er, ea, nI_clamp (by omega)]
  rw [if_neg n6', if_pos rfl, x1, x2, eg]
  unfold f_X5_perform_9 r_X5_perform_9
  rw [el, r9_eq _ _ _ (show zI (zpI σ 512 0 (zI σ 512 0 + 1)) 400 l = nI a from z1.trans ea), f9_eq _ (show zI (zpI σ 512 0 (zI σ 512 0 + 1)) 400 l = nI a from z1.trans ea) (nI_clamp (by omega)) em er]
  exact ⟨rfl, fun _ => ⟨rfl, l, a, m, r, hl1, rfl, rfl, rfl, a6, ea, c2, hm1, hr1, k1, k2, s1, s2, rfl, rfl⟩⟩
theorem sm_9 (h : zsim σ μ τ) (hm : ymod μ τ) (hN : zn τ 512 < 512) {w1 w2 w3 : Int32} (h0 : k_ref σ (nI 9) w1 w2 w3 0 = 0) : zsim (k_pf σ (nI 9) w1 w2 w3 0) (g_9 μ w1 w2 w3) (zt1 τ) ∧ ymod (g_9 μ w1 w2 w3) (zt1 τ) := by
  obtain ⟨-, l, a, m, r, hl1, rfl, rfl, rfl, ha, ea, e60, hm1, hr1, q1, q2, q4, q5, eg, es⟩ := (ok_9 h hm w1 w2 w3).2 h0
  obtain ⟨hn, hg, hmm, hc, he, hw, hh, hp, hr, hl, hf⟩ := id h
  obtain ⟨n1, n2, n3, n4, n5, n6, n7, n8, n9⟩ := id hn
  obtain ⟨mn, md, ms, mw, mk, mp, ml, mx, mf, mz, t0, tc, tf, tx, mb⟩ := id hm
  obtain ⟨b1, b2, b3, b4, b5⟩ := id mn
  have hb2 := b2.2
  have hb4 := b4.2
  rw [eg, es]
  have g38 : ∀ d, zA (g_9b μ l a m r) 38 0 d = if d = m ∨ d = r then 97 else zA μ 38 0 d := fun d => by
    unfold g_9b
    by_cases d1 : d = r
    · simp [zI_pI, zI_pL, zI_pA, zL_pI, zL_pL, zL_pA, zA_pI, zA_pL, zA_pA, d1]
    · by_cases d2 : d = m <;> simp [zI_pI, zI_pL, zI_pA, zL_pI, zL_pL, zL_pA, zA_pI, zA_pL, zA_pA, d1, d2]
  have gk : ∀ k, k ≠ 38 → k ≠ 59 → k ≠ 61 → k ≠ 62 → ∀ d, zA (g_9b μ l a m r) k 0 d = zA μ k 0 d := fun k h1 h2 h3 h4 d => by unfold g_9b; simp [zI_pI, zI_pL, zI_pA, zL_pI, zL_pL, zL_pA, zA_pI, zA_pL, zA_pA, h1, h2, h3, h4]
  have g59 : zA (g_9b μ l a m r) 59 0 l = nI (a + 1) := by unfold g_9b; simp [zI_pI, zI_pL, zI_pA, zL_pI, zL_pL, zL_pA, zA_pI, zA_pL, zA_pA]
  have g59o : ∀ d, d ≠ l → zA (g_9b μ l a m r) 59 0 d = zA μ 59 0 d := fun d hd => by unfold g_9b; simp [zI_pI, zI_pL, zI_pA, zL_pI, zL_pL, zL_pA, zA_pI, zA_pL, zA_pA, hd]
  have g61 : zA (g_9b μ l a m r) 61 0 (6 * l + a) = nI m := by unfold g_9b; simp [zI_pI, zI_pL, zI_pA, zL_pI, zL_pL, zL_pA, zA_pI, zA_pL, zA_pA]
  have g61o : ∀ d, d ≠ 6 * l + a → zA (g_9b μ l a m r) 61 0 d = zA μ 61 0 d := fun d hd => by unfold g_9b; simp [zI_pI, zI_pL, zI_pA, zL_pI, zL_pL, zL_pA, zA_pI, zA_pL, zA_pA, hd]
  have g62 : zA (g_9b μ l a m r) 62 0 (6 * l + a) = nI r := by unfold g_9b; simp [zI_pI, zI_pL, zI_pA, zL_pI, zL_pL, zL_pA, zA_pI, zA_pL, zA_pA]
  have g62o : ∀ d, d ≠ 6 * l + a → zA (g_9b μ l a m r) 62 0 d = zA μ 62 0 d := fun d hd => by unfold g_9b; simp [zI_pI, zI_pL, zI_pA, zL_pI, zL_pL, zL_pA, zA_pI, zA_pL, zA_pA, hd]
  have hsc : zsc μ (g_9b μ l a m r) := fun d => by
    rw [g38]
    by_cases d1 : d = m ∨ d = r
    · rw [if_pos d1]
      rcases d1 with rfl | rfl
      · exact Or.inr ⟨hm1, Or.inr q4, by simp⟩
      · exact Or.inr ⟨hr1, Or.inr q5, by simp⟩
    · rw [if_neg d1]; exact Or.inl rfl
  have ec : (zA μ 59 0 l).toNatClampNeg = a := by rw [ea, nI_clamp (by omega)]
  have ec1 : (zA (g_9b μ l a m r) 59 0 l).toNatClampNeg = a + 1 := by rw [g59, nI_clamp (by omega)]
  refine ⟨⟨⟨n1, n2, n3, n4, n5, n6, n7, n8, ?_⟩, hg, hmm, fun d hd => ?_, he, sc_zw hsc hw rfl (fun k hk i => by rcases hk with rfl | rfl | rfl <;> exact gk _ (by decide) (by decide) (by decide) (by decide) i) (fun k hk i => by rcases hk with rfl | rfl <;> rfl) (fun i j => rfl), sc_zh hsc hh rfl (fun k hk i => by rcases hk with rfl | rfl <;> exact gk _ (by decide) (by decide) (by decide) (by decide) i) (fun k hk i => by rcases hk with rfl | rfl <;> rfl), hp, hr, fun d hd => ?_, hf⟩, ?_⟩
  · show zI σ 512 0 + 1 = zI τ 512 0 + 1
    rw [n9]
  · have hd : d < zn μ 840 := hd
    have := hc d hd
    rw [g38, gk 41 (by decide) (by decide) (by decide) (by decide), gk 42 (by decide) (by decide) (by decide) (by decide), gk 43 (by decide) (by decide) (by decide) (by decide), gk 44 (by decide) (by decide) (by decide) (by decide)]
    unfold s_9b zt1
    by_cases d1 : d = r
    · simp [zI_pI, zI_pL, zI_pA, zL_pI, zL_pL, zL_pA, zA_pI, zA_pL, zA_pA, d1, this]
      subst d1
      simp [this]
    · by_cases d2 : d = m
      · subst d2
        simp [zI_pI, zI_pL, zI_pA, zL_pI, zL_pL, zL_pA, zA_pI, zA_pL, zA_pA, d1, this]
      · simp [zI_pI, zI_pL, zI_pA, zL_pI, zL_pL, zL_pA, zA_pI, zA_pL, zA_pA, d1, d2, this]
  · have hd : d < zn μ 842 := hd
    obtain ⟨z1, z2, z3⟩ := hl d hd
    rw [gk 60 (by decide) (by decide) (by decide) (by decide)]
    by_cases e : d = l
    · subst e
      rw [g59, nI_clamp (by omega)]
      refine ⟨?_, z2, fun q hq => ?_⟩
      · unfold s_9b
        simp [zI_pI, zI_pL, zI_pA, zL_pI, zL_pL, zL_pA, zA_pI, zA_pL, zA_pA]
      · by_cases e3 : q = a
        · subst e3
          rw [g61, g62]
          unfold s_9b
          simp [zI_pI, zI_pL, zI_pA, zL_pI, zL_pL, zL_pA, zA_pI, zA_pL, zA_pA]
        · rw [g61o _ (by omega), g62o _ (by omega)]
          have := z3 q (by omega)
          unfold s_9b
          simpa [zI_pI, zI_pL, zI_pA, zL_pI, zL_pL, zL_pA, zA_pI, zA_pL, zA_pA, e3] using this
    · rw [g59o d e]
      refine ⟨?_, z2, fun q hq => ?_⟩
      · unfold s_9b
        simp [zI_pI, zI_pL, zI_pA, zL_pI, zL_pL, zL_pA, zA_pI, zA_pL, zA_pA, e, z1]
      · obtain ⟨b, hb, eb, -⟩ := ml d hd
        have hq6 : q < 6 := by
          rw [eb, nI_clamp (by omega)] at hq
          omega
        rw [g61o _ (by omega), g62o _ (by omega)]
        have := z3 q hq
        unfold s_9b
        simpa [zI_pI, zI_pL, zI_pA, zL_pI, zL_pL, zL_pA, zA_pI, zA_pL, zA_pA, e] using this
  · refine ymod_tick hm hN mn md (sc_s hsc ms rfl) (sc_w hsc mw rfl (fun k hk i => by rcases hk with rfl | rfl | rfl <;> exact gk _ (by decide) (by decide) (by decide) (by decide) i)) (sc_k hsc mk rfl rfl (fun i => rfl)) mp (fun d hd => ?_) (fun d d' hd hd' z z' q q' hq hq' e => ?_) mf (sc_z mz rfl rfl rfl (fun k hk d hd => ?_) (fun k hk d hd => ?_) (fun d => rfl)) rfl rfl (fun k hk c => by rcases hk with rfl | rfl | rfl | rfl | rfl | rfl | rfl | rfl | rfl <;> rfl) rfl (sc_b hsc mb rfl rfl (fun i => gk 40 (by decide) (by decide) (by decide) (by decide) i))
    · have hd : d < zn μ 842 := hd
      obtain ⟨b, hb, eb, f60, hq⟩ := ml d hd
      have key : ∀ q, q < b → ¬ (d = l ∧ q = a) → ∃ m' r', m' < zn μ 840 ∧ r' < zn μ 840 ∧ zA (g_9b μ l a m r) 61 0 (6 * d + q) = nI m' ∧ zA (g_9b μ l a m r) 62 0 (6 * d + q) = nI r' ∧ zA μ 33 0 m' = 109 ∧ zA μ 33 0 r' = 114 ∧ (zA μ 60 0 d = 0 → zA (g_9b μ l a m r) 38 0 m' = 97 ∧ zA (g_9b μ l a m r) 38 0 r' = 97) := fun q hqb hqa => by
        obtain ⟨m', r', p1, p2, p3, p4, p5, p6, p7⟩ := hq q hqb
        have nq : 6 * d + q ≠ 6 * l + a := fun y => hqa (by omega)
        refine ⟨m', r', p1, p2, by rw [g61o _ nq]; exact p3, by rw [g62o _ nq]; exact p4, p5, p6, fun z => ?_⟩
        obtain ⟨p8, p9⟩ := p7 z
        rw [g38, g38, p8, p9]
        simp
      rw [gk 60 (by decide) (by decide) (by decide) (by decide)]
      simp only [gk 33 (by decide) (by decide) (by decide) (by decide)]
      by_cases e : d = l
      · subst e
        have hab : a = b := by
          have : nI b = nI a := by rw [← eb, ea]
          have := congrArg Int32.toNatClampNeg this
          rw [nI_clamp (by omega), nI_clamp (by omega)] at this
          omega
        refine ⟨a + 1, by omega, g59, f60, fun q hqa => ?_⟩
        by_cases e3 : q = a
        · subst e3
          exact ⟨m, r, hm1, hr1, g61, g62, q1, q2, fun _ => by rw [g38, g38]; simp⟩
        · exact key q (by omega) (fun y => e3 y.2)
      · exact ⟨b, hb, by rw [g59o d e]; exact eb, f60, fun q hqb => key q hqb (fun y => absurd y.1 e)⟩
    · have hd : d < zn μ 842 := hd
      have hd' : d' < zn μ 842 := hd'
      rw [gk 60 (by decide) (by decide) (by decide) (by decide)] at z z'
      obtain ⟨b, hb, eb, -, hb3⟩ := ml d hd
      obtain ⟨b', hb', eb', -, hb3'⟩ := ml d' hd'
      have cl : ∀ {d q b}, zA μ 59 0 d = nI b → b ≤ 6 → q < (zA (g_9b μ l a m r) 59 0 d).toNatClampNeg → ¬ (d = l ∧ q = a) → q < b := fun {d q b} eb hb hq nn => by
        by_cases e : d = l
        · subst e
          rw [ec1] at hq
          rw [eb, nI_clamp (by omega)] at ec
          have : q ≠ a := fun y => nn ⟨rfl, y⟩
          omega
        · rw [g59o d e, eb, nI_clamp (by omega)] at hq
          exact hq
      have c6 : ∀ {d q b}, zA μ 59 0 d = nI b → b ≤ 6 → q < (zA (g_9b μ l a m r) 59 0 d).toNatClampNeg → q < 6 := fun {d q b} eb hb hq => by
        by_cases e : d = l ∧ q = a
        · omega
        · have := cl eb hb hq e
          omega
      have i1 := c6 eb hb hq
      have i2 := c6 eb' hb' hq'
      have nJ : ∀ {x y : Nat}, x < zn μ 840 → y < zn μ 840 → nI x = nI y → x = y := fun {x y} hx hy z => by
        have := congrArg Int32.toNatClampNeg z
        rw [nI_clamp (by omega), nI_clamp (by omega)] at this
        exact this
      by_cases y1 : d = l ∧ q = a
      · by_cases y2 : d' = l ∧ q' = a
        · exact ⟨y1.1.trans y2.1.symm, y1.2.trans y2.2.symm⟩
        · obtain ⟨m', r', p1, p2, p3, p4, p5, p6, p7⟩ := hb3' q' (cl eb' hb' hq' y2)
          obtain ⟨p8, p9⟩ := p7 z'
          obtain ⟨rfl, rfl⟩ := y1
          have nq : 6 * d' + q' ≠ 6 * d + q := fun y => y2 (by omega)
          rw [g61, g62, g61o _ nq, g62o _ nq, p3, p4] at e
          rcases e with e | e
          · rw [nJ hm1 p1 e, p8] at q4; exact absurd q4 (by decide)
          · rw [nJ hr1 p2 e, p9] at q5; exact absurd q5 (by decide)
      · have nq : 6 * d + q ≠ 6 * l + a := fun y => y1 (by omega)
        by_cases y2 : d' = l ∧ q' = a
        · obtain ⟨m', r', p1, p2, p3, p4, p5, p6, p7⟩ := hb3 q (cl eb hb hq y1)
          obtain ⟨p8, p9⟩ := p7 z
          obtain ⟨rfl, rfl⟩ := y2
          rw [g61, g62, g61o _ nq, g62o _ nq, p3, p4] at e
          rcases e with e | e
          · rw [← nJ p1 hm1 e, p8] at q4; exact absurd q4 (by decide)
          · rw [← nJ p2 hr1 e, p9] at q5; exact absurd q5 (by decide)
        · have nq' : 6 * d' + q' ≠ 6 * l + a := fun y => y2 (by omega)
          rw [g61o _ nq, g62o _ nq, g61o _ nq', g62o _ nq'] at e
          exact mx d d' hd hd' z z' q q' (by rw [eb, nI_clamp (by omega)]; exact cl eb hb hq y1) (by rw [eb', nI_clamp (by omega)]; exact cl eb' hb' hq' y2) e
    · by_cases k38 : k = 38
      · subst k38
        rw [g38, if_neg (by omega)]
      · exact gk k k38 (by omega) (by omega) (by omega) d
    · by_cases k59 : k = 59
      · subst k59
        exact g59o d (by omega)
      · exact gk k (by omega) k59 (by omega) (by omega) d
end ZAL
