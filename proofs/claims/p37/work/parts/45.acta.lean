section ZAD
variable {σ μ τ : zS}
theorem zk_lt {x : Int32} {a b : Nat} (h : k_in x (nI a) (nI b) = true) (hb : b < 2 ^ 31) (ha : a < 2 ^ 31) : ∃ j, a ≤ j ∧ j ≤ b ∧ x = nI j := by
  unfold k_in at h
  simp only [Bool.and_eq_true, Bool.not_eq_true', decide_eq_false_iff_not] at h
  have e0 : ¬ x < 0 := fun z => h.1 (Int32.lt_of_lt_of_le z (nI_pos' ha))
  obtain ⟨j, hj, rfl⟩ := nI_of e0
  rw [nI_ltI hj ha, nI_ltI hb hj] at h
  exact ⟨j, by omega, by omega, rfl⟩
theorem zr_cap {μ : zS} {f N : Nat} (hb : zbd μ f N) (hN : N < 2 ^ 20) : (nI N ≤ zI μ f 0) ↔ zI μ f 0 = nI N := by
  have h2 := hb.2
  rw [hb.1, nI_leI (by omega) (by omega)]
  exact ⟨fun z => by rw [show zn μ f = N by omega], fun z => by have := nI_inj' (by omega) (by omega) z; omega⟩
theorem zr_cap2 {μ : zS} {f N : Nat} (hb : zbd μ f N) (hN : N < 2 ^ 20) (h : ¬ zI μ f 0 = nI N) : zn μ f < N := by
  have h2 := hb.2
  rcases Nat.lt_or_ge (zn μ f) N with q | q
  · exact q
  · exact absurd (by rw [hb.1, show zn μ f = N by omega]) h
theorem zbd_up {μ ν : zS} {f g N : Nat} (hb : zbd μ f N) (hN : N < 2 ^ 20) (hlt : zn μ f < N) (e : zI ν g 0 = zI μ f 0 + 1) : zbd ν g N := by
  have := zn_up hb hN e
  exact ⟨by rw [this.1, this.2], by rw [this.2]; omega⟩
/-! 4: goOn -/
def g_4 (μ : zS) (w1 : Int32) : zS := zpI μ 844 0 (zI μ 844 0 + w1)
theorem fe_4 (h : zsim σ μ τ) (w1 : Int32) : f_X10_goOn μ w1 = if k_ref σ (nI 4) w1 0 0 0 = 0 then zpI (g_4 μ w1) 838 0 0 else zpI μ 838 0 (zkc [2, 4] (k_ref σ (nI 4) w1 0 0 0)) := by
  obtain ⟨hn, hg, hmm, hc, he, hw, hh, hp, hr, hl, hf⟩ := id h
  obtain ⟨n1, n2, n3, n4, n5, n6, n7, n8, n9⟩ := id hn
  rw [show nI 4 = 4 from rfl, k_ref_4]
  unfold r_X8_refusalOf_4 r_X8_ofGoOn f_X10_goOn
  rw [n6]
  cases k_in w1 1 999
  · rfl
  · by_cases c : zI μ 844 0 + w1 ≤ 9999
    · rw [if_pos rfl, if_pos c, if_pos rfl, if_neg (Int32.not_lt.mpr c)]; rfl
    · rw [if_pos rfl, if_neg c, if_pos rfl, if_pos (Int32.not_le.mp c)]; rfl
theorem re_4 (h : zsim σ μ τ) {w1 : Int32} (h0 : k_ref σ (nI 4) w1 0 0 0 = 0) : r_X10_goOn μ w1 = k_pr σ (nI 4) w1 0 0 0 := by
  obtain ⟨hn, hg, hmm, hc, he, hw, hh, hp, hr, hl, hf⟩ := id h
  obtain ⟨n1, n2, n3, n4, n5, n6, n7, n8, n9⟩ := id hn
  rw [show nI 4 = 4 from rfl, k_ref_4] at h0
  rw [show nI 4 = 4 from rfl, k_pr_4]
  unfold r_X8_refusalOf_4 r_X8_ofGoOn at h0
  unfold r_X10_goOn
  rw [n6] at h0
  cases hk : k_in w1 1 999
  · rw [hk] at h0; simp at h0
  · rw [hk, if_pos rfl] at h0
    by_cases c : zI μ 844 0 + w1 ≤ 9999
    · rw [if_pos rfl, if_pos c]
      show zI μ 844 0 + w1 = zI σ 509 0 + w1
      rw [n6]
    · rw [if_pos (Int32.not_le.mp c)] at h0
      exact absurd h0 (by decide)
theorem sm_4 (h : zsim σ μ τ) (hm : ymod μ τ) (hN : zn τ 512 < 512) {w1 : Int32} (h0 : k_ref σ (nI 4) w1 0 0 0 = 0) : zsim (k_pf σ (nI 4) w1 0 0 0) (g_4 μ w1) (zt1 τ) ∧ ymod (g_4 μ w1) (zt1 τ) := by
  obtain ⟨hn, hg, hmm, hc, he, hw, hh, hp, hr, hl, hf⟩ := id h
  obtain ⟨n1, n2, n3, n4, n5, n6, n7, n8, n9⟩ := id hn
  obtain ⟨mn, md, ms, mw, mk, mp, ml, mx, mf, mz, t0, tc, tf, tx, mb⟩ := id hm
  obtain ⟨b1, b2, b3, b4, b5⟩ := id mn
  rw [show nI 4 = 4 from rfl, k_ref_4] at h0
  rw [show nI 4 = 4 from rfl, k_pf_4]
  unfold r_X8_refusalOf_4 r_X8_ofGoOn at h0
  rw [n6] at h0
  cases hk : k_in w1 1 999
  · rw [hk] at h0; simp at h0
  rw [hk, if_pos rfl] at h0
  obtain ⟨j, hj1, hj, rfl⟩ := zk_lt (a := 1) (b := 999) hk (by decide) (by decide)
  obtain ⟨d, hd, ed⟩ := md.1
  have e2 : zI μ 844 0 + nI j = nI (d + j) := by rw [ed, nI_add]
  rw [e2] at h0
  have hle : d + j ≤ 9999 := by
    by_cases q : (9999 : Int32) < nI (d + j)
    · rw [if_pos q] at h0; exact absurd h0 (by decide)
    · rw [show (9999 : Int32) = nI 9999 from rfl, nI_ltI (by omega) (by omega)] at q
      omega
  refine ⟨⟨⟨n1, n2, n3, n4, n5, ?_, n7, n8, ?_⟩, h.2⟩, ?_⟩
  · show zI σ 509 0 + nI j = zI μ 844 0 + nI j
    rw [n6]
  · show zI σ 512 0 + 1 = zI τ 512 0 + 1
    rw [n9]
  · exact ymod_tick hm hN mn ⟨⟨d + j, hle, e2⟩, md.2⟩ ms mw mk mp ml mx mf mz rfl rfl (fun k hk c => rfl) rfl (Nat.le_succ_of_le mb)
/-! 0: addRigger -/
def g_0 (μ : zS) (w1 w2 : Int32) : zS := zpI (zpA (zpA μ 31 0 (zn μ 839) w1) 32 0 (zn μ 839) w2) 839 0 (zI μ 839 0 + 1)
theorem fe_0 (h : zsim σ μ τ) (hm : ymod μ τ) (w1 w2 : Int32) : f_X10_addRigger μ w1 w2 = if k_ref σ (nI 0) w1 w2 0 0 = 0 then zpI (g_0 μ w1 w2) 838 0 0 else zpI μ 838 0 (zkc [2, 4] (k_ref σ (nI 0) w1 w2 0 0)) := by
  obtain ⟨hn, hg, hmm, hc, he, hw, hh, hp, hr, hl, hf⟩ := id h
  obtain ⟨n1, n2, n3, n4, n5, n6, n7, n8, n9⟩ := id hn
  obtain ⟨mn, md, ms, mw, mk, mp, ml, mx, mf, mz, t0, tc, tf, tx, mb⟩ := id hm
  obtain ⟨b1, b2, b3, b4, b5⟩ := id mn
  rw [show nI 0 = 0 from rfl, k_ref_0]
  unfold r_X8_refusalOf_0 r_X8_ofAddRigger f_X10_addRigger k_lic
  rw [n1]
  have cap : (8 : Int32) ≤ zI μ 839 0 ↔ zI μ 839 0 = 8 := zr_cap (N := 8) b1 (by decide)
  cases k_in w1 0 63
  · rfl
  · cases k_in w2 0 9999
    · rfl
    · by_cases c : zI μ 839 0 = 8
      · simp only [c, Bool.and_self, Bool.true_eq_false, if_true, if_false, not_true_eq_false]
        rfl
      · have c2 : ¬ (8 : Int32) ≤ zI μ 839 0 := fun z => c (cap.mp z)
        simp only [c, c2, Bool.and_self, Bool.true_eq_false, if_true, if_false, not_false_eq_true]
        rfl
theorem re_0 (h : zsim σ μ τ) (hm : ymod μ τ) {w1 w2 : Int32} (h0 : k_ref σ (nI 0) w1 w2 0 0 = 0) : r_X10_addRigger μ w1 w2 = k_pr σ (nI 0) w1 w2 0 0 := by
  obtain ⟨hn, hg, hmm, hc, he, hw, hh, hp, hr, hl, hf⟩ := id h
  obtain ⟨n1, n2, n3, n4, n5, n6, n7, n8, n9⟩ := id hn
  obtain ⟨mn, md, ms, mw, mk, mp, ml, mx, mf, mz, t0, tc, tf, tx, mb⟩ := id hm
  obtain ⟨b1, b2, b3, b4, b5⟩ := id mn
  rw [show nI 0 = 0 from rfl, k_ref_0] at h0
  rw [show nI 0 = 0 from rfl, k_pr_0]
  unfold r_X8_refusalOf_0 r_X8_ofAddRigger k_lic at h0
  unfold r_X10_addRigger
  rw [n1] at h0
  have cap : (8 : Int32) ≤ zI μ 839 0 ↔ zI μ 839 0 = 8 := zr_cap (N := 8) b1 (by decide)
  cases h1 : k_in w1 0 63
  · rw [h1] at h0; simp at h0
  · cases h2 : k_in w2 0 9999
    · rw [h1, h2] at h0; simp at h0
    · by_cases c : zI μ 839 0 = 8
      · rw [h1, h2, Bool.and_self, if_pos rfl, if_pos (cap.mpr c)] at h0; exact absurd h0 (by decide)
      · rw [if_neg (by decide), if_pos rfl, if_pos c]
        show zI μ 839 0 + 1 - 1 = zI σ 505 0 + 1 - 1
        rw [n1]
theorem sm_0 (h : zsim σ μ τ) (hm : ymod μ τ) (hN : zn τ 512 < 512) {w1 w2 : Int32} (h0 : k_ref σ (nI 0) w1 w2 0 0 = 0) : zsim (k_pf σ (nI 0) w1 w2 0 0) (g_0 μ w1 w2) (zt1 τ) ∧ ymod (g_0 μ w1 w2) (zt1 τ) := by
  obtain ⟨hn, hg, hmm, hc, he, hw, hh, hp, hr, hl, hf⟩ := id h
  obtain ⟨n1, n2, n3, n4, n5, n6, n7, n8, n9⟩ := id hn
  obtain ⟨mn, md, ms, mw, mk, mp, ml, mx, mf, mz, t0, tc, tf, tx, mb⟩ := id hm
  obtain ⟨b1, b2, b3, b4, b5⟩ := id mn
  rw [show nI 0 = 0 from rfl, k_ref_0] at h0
  rw [show nI 0 = 0 from rfl, k_pf_0]
  unfold r_X8_refusalOf_0 r_X8_ofAddRigger k_lic at h0
  rw [n1] at h0
  have hlt : zn μ 839 < 8 := by
    cases h1 : k_in w1 0 63
    · rw [h1] at h0; simp at h0
    · cases h2 : k_in w2 0 9999
      · rw [h1, h2] at h0; simp at h0
      · rw [h1, h2, Bool.and_self, if_pos rfl] at h0
        refine zr_cap2 b1 (by decide) (fun z => ?_)
        rw [if_pos (show (8 : Int32) ≤ zI μ 839 0 from (zr_cap (N := 8) b1 (by decide)).mpr z)] at h0
        exact absurd h0 (by decide)
  have eN : zn σ 505 = zn μ 839 := zn_eq n1
  have up := zn_up b1 (by decide) (ν := g_0 μ w1 w2) (g := 839) rfl
  refine ⟨⟨⟨?_, n2, n3, n4, n5, n6, n7, n8, ?_⟩, ?_, hmm, hc, he, hw, hh, hp, hr, hl, hf⟩, ?_⟩
  · show zI σ 505 0 + 1 = zI μ 839 0 + 1
    rw [n1]
  · show zI σ 512 0 + 1 = zI τ 512 0 + 1
    rw [n9]
  · intro k hk
    rw [up.2] at hk
    show zI (f_X7_set (zpI σ 512 0 (zI σ 512 0 + 1)) (zn σ 505) w1 w2) 600 k = zA (g_0 μ w1 w2) 31 0 k ∧ zI (f_X7_set (zpI σ 512 0 (zI σ 512 0 + 1)) (zn σ 505) w1 w2) 601 k = zA (g_0 μ w1 w2) 32 0 k
    rw [eN]
    unfold f_X7_set g_0
    by_cases e : k = zn μ 839
    · subst e
      simp [zI_pI, zI_pL, zI_pA, zL_pI, zL_pL, zL_pA, zA_pI, zA_pL, zA_pA]
    · have := hg k (by omega)
      simp [zI_pI, zI_pL, zI_pA, zL_pI, zL_pL, zL_pA, zA_pI, zA_pL, zA_pA, e, this]
  · exact ymod_tick hm hN ⟨zbd_up b1 (by decide) hlt rfl, b2, b3, b4, b5⟩ md ms mw mk mp ml mx mf mz rfl rfl (fun k hk c => by rcases hk with rfl | rfl | rfl | rfl | rfl | rfl | rfl | rfl | rfl <;> rfl) rfl (Nat.le_succ_of_le mb)
/-! 1: setLicences -/
def g_1 (μ : zS) (w1 w2 w3 : Int32) : zS := zpA (zpA μ 31 0 w1.toNatClampNeg w2) 32 0 w1.toNatClampNeg w3
theorem fe_1 (h : zsim σ μ τ) (hm : ymod μ τ) (w1 w2 w3 : Int32) : f_X10_setLicences μ w1 w2 w3 = if k_ref σ (nI 1) w1 w2 w3 0 = 0 then zpI (g_1 μ w1 w2 w3) 838 0 0 else zpI μ 838 0 (zkc [1, 2] (k_ref σ (nI 1) w1 w2 w3 0)) := by
  rw [show nI 1 = 1 from rfl, k_ref_1]
  unfold r_X8_refusalOf_1 r_X8_ofSetLicences f_X10_setLicences k_lic
  rw [zr_has_r h hm]
  cases y_has μ 839 w1
  · rfl
  · cases k_in w2 0 63
    · rfl
    · cases k_in w3 0 9999 <;> rfl
theorem re_1 (h : zsim σ μ τ) (hm : ymod μ τ) {w1 w2 w3 : Int32} (h0 : k_ref σ (nI 1) w1 w2 w3 0 = 0) : r_X10_setLicences μ w1 w2 w3 = k_pr σ (nI 1) w1 w2 w3 0 := by
  obtain ⟨hn, hg, hmm, hc, he, hw, hh, hp, hr, hl, hf⟩ := id h
  obtain ⟨n1, n2, n3, n4, n5, n6, n7, n8, n9⟩ := id hn
  obtain ⟨mn, md, ms, mw, mk, mp, ml, mx, mf, mz, t0, tc, tf, tx, mb⟩ := id hm
  obtain ⟨b1, b2, b3, b4, b5⟩ := id mn
  rw [show nI 1 = 1 from rfl, k_ref_1] at h0
  rw [show nI 1 = 1 from rfl, k_pr_1]
  unfold r_X8_refusalOf_1 r_X8_ofSetLicences k_lic at h0
  unfold r_X10_setLicences
  rw [zr_has_r h hm] at h0
  cases h1 : y_has μ 839 w1
  · rw [h1] at h0; simp at h0
  · cases h2 : k_in w2 0 63
    · rw [h1, h2] at h0; simp at h0
    · cases h3 : k_in w3 0 9999
      · rw [h1, h2, h3] at h0; simp at h0
      · obtain ⟨j, hj, rfl⟩ := yhas_lt b1 (by decide) h1
        have := b1.2
        show zA μ 31 0 (nI j).toNatClampNeg = zI σ 600 (nI j).toNatClampNeg
        rw [nI_clamp (by omega), (hg j hj).1]
theorem sm_1 (h : zsim σ μ τ) (hm : ymod μ τ) (hN : zn τ 512 < 512) {w1 w2 w3 : Int32} (h0 : k_ref σ (nI 1) w1 w2 w3 0 = 0) : zsim (k_pf σ (nI 1) w1 w2 w3 0) (g_1 μ w1 w2 w3) (zt1 τ) ∧ ymod (g_1 μ w1 w2 w3) (zt1 τ) := by
  obtain ⟨hn, hg, hmm, hc, he, hw, hh, hp, hr, hl, hf⟩ := id h
  obtain ⟨n1, n2, n3, n4, n5, n6, n7, n8, n9⟩ := id hn
  obtain ⟨mn, md, ms, mw, mk, mp, ml, mx, mf, mz, t0, tc, tf, tx, mb⟩ := id hm
  obtain ⟨b1, b2, b3, b4, b5⟩ := id mn
  rw [show nI 1 = 1 from rfl, k_pf_1]
  refine ⟨⟨⟨n1, n2, n3, n4, n5, n6, n7, n8, ?_⟩, ?_, hmm, hc, he, hw, hh, hp, hr, hl, hf⟩, ?_⟩
  · show zI σ 512 0 + 1 = zI τ 512 0 + 1
    rw [n9]
  · intro k hk
    show zI (f_X7_set (zpI σ 512 0 (zI σ 512 0 + 1)) w1.toNatClampNeg w2 w3) 600 k = zA (g_1 μ w1 w2 w3) 31 0 k ∧ zI (f_X7_set (zpI σ 512 0 (zI σ 512 0 + 1)) w1.toNatClampNeg w2 w3) 601 k = zA (g_1 μ w1 w2 w3) 32 0 k
    unfold f_X7_set g_1
    by_cases e : k = w1.toNatClampNeg
    · subst e
      simp [zI_pI, zI_pL, zI_pA, zL_pI, zL_pL, zL_pA, zA_pI, zA_pL, zA_pA]
    · have := hg k hk
      simp [zI_pI, zI_pL, zI_pA, zL_pI, zL_pL, zL_pA, zA_pI, zA_pL, zA_pA, e, this]
  · exact ymod_tick hm hN mn md ms mw mk mp ml mx mf mz rfl rfl (fun k hk c => by rcases hk with rfl | rfl | rfl | rfl | rfl | rfl | rfl | rfl | rfl <;> rfl) rfl (Nat.le_succ_of_le mb)
/-! 8: load -/
def g_8 (μ : zS) : zS := zpI μ 842 0 (zI μ 842 0 + 1)
theorem fe_8 (h : zsim σ μ τ) (hm : ymod μ τ) : f_X10_load μ = if k_ref σ (nI 8) 0 0 0 0 = 0 then zpI (g_8 μ) 838 0 0 else zpI μ 838 0 (zkc [4] (k_ref σ (nI 8) 0 0 0 0)) := by
  obtain ⟨hn, hg, hmm, hc, he, hw, hh, hp, hr, hl, hf⟩ := id h
  obtain ⟨n1, n2, n3, n4, n5, n6, n7, n8, n9⟩ := id hn
  obtain ⟨mn, md, ms, mw, mk, mp, ml, mx, mf, mz, t0, tc, tf, tx, mb⟩ := id hm
  obtain ⟨b1, b2, b3, b4, b5⟩ := id mn
  rw [show nI 8 = 8 from rfl, k_ref_8]
  unfold r_X8_refusalOf_8 f_X10_load
  rw [n4]
  have cap : (30 : Int32) ≤ zI μ 842 0 ↔ zI μ 842 0 = 30 := zr_cap (N := 30) b4 (by decide)
  by_cases c : zI μ 842 0 = 30
  · rw [if_neg (not_not_intro c), if_pos (cap.mpr c)]; rfl
  · rw [if_pos c, if_neg (fun z => c (cap.mp z))]; rfl
theorem re_8 (h : zsim σ μ τ) (hm : ymod μ τ) (h0 : k_ref σ (nI 8) 0 0 0 0 = 0) : r_X10_load μ = k_pr σ (nI 8) 0 0 0 0 := by
  obtain ⟨hn, hg, hmm, hc, he, hw, hh, hp, hr, hl, hf⟩ := id h
  obtain ⟨n1, n2, n3, n4, n5, n6, n7, n8, n9⟩ := id hn
  obtain ⟨mn, md, ms, mw, mk, mp, ml, mx, mf, mz, t0, tc, tf, tx, mb⟩ := id hm
  obtain ⟨b1, b2, b3, b4, b5⟩ := id mn
  rw [show nI 8 = 8 from rfl, k_ref_8] at h0
  rw [show nI 8 = 8 from rfl, k_pr_8]
  unfold r_X8_refusalOf_8 at h0
  unfold r_X10_load
  rw [n4] at h0
  by_cases c : zI μ 842 0 = 30
  · rw [if_pos (show (30 : Int32) ≤ zI μ 842 0 from (zr_cap (N := 30) b4 (by decide)).mpr c)] at h0; exact absurd h0 (by decide)
  · rw [if_pos c]
    show zI μ 842 0 + 1 - 1 = zI σ 507 0 + 1 - 1
    rw [n4]
theorem sm_8 (h : zsim σ μ τ) (hm : ymod μ τ) (hN : zn τ 512 < 512) (h0 : k_ref σ (nI 8) 0 0 0 0 = 0) : zsim (k_pf σ (nI 8) 0 0 0 0) (g_8 μ) (zt1 τ) ∧ ymod (g_8 μ) (zt1 τ) := by
  obtain ⟨hn, hg, hmm, hc, he, hw, hh, hp, hr, hl, hf⟩ := id h
  obtain ⟨n1, n2, n3, n4, n5, n6, n7, n8, n9⟩ := id hn
  obtain ⟨mn, md, ms, mw, mk, mp, ml, mx, mf, mz, t0, tc, tf, tx, mb⟩ := id hm
  obtain ⟨b1, b2, b3, b4, b5⟩ := id mn
  rw [show nI 8 = 8 from rfl, k_ref_8] at h0
  rw [show nI 8 = 8 from rfl, k_pf_8]
  unfold r_X8_refusalOf_8 at h0
  rw [n4] at h0
  have hlt : zn μ 842 < 30 := by
    refine zr_cap2 b4 (by decide) (fun z => ?_)
    rw [if_pos (show (30 : Int32) ≤ zI μ 842 0 from (zr_cap (N := 30) b4 (by decide)).mpr z)] at h0
    exact absurd h0 (by decide)
  have eN : zn σ 507 = zn μ 842 := zn_eq n4
  have up := zn_up b4 (by decide) (ν := g_8 μ) (g := 842) rfl
  have z2 := mz.2.1 (zn μ 842) (Nat.le_refl _) hlt
  refine ⟨⟨⟨n1, n2, n3, ?_, n5, n6, n7, n8, ?_⟩, hg, hmm, hc, he, hw, hh, hp, hr, ?_, hf⟩, ?_⟩
  · show zI σ 507 0 + 1 = zI μ 842 0 + 1
    rw [n4]
  · show zI σ 512 0 + 1 = zI τ 512 0 + 1
    rw [n9]
  · intro k hk
    rw [up.2] at hk
    show zI (f_X4_begin (zpI σ 512 0 (zI σ 512 0 + 1)) (zn σ 507)) 400 k = zA μ 59 0 k ∧ zI (f_X4_begin (zpI σ 512 0 (zI σ 512 0 + 1)) (zn σ 507)) 401 k = zA μ 60 0 k ∧ ∀ q, q < (zA μ 59 0 k).toNatClampNeg → zA σ 14 k q = zA μ 61 0 (6 * k + q) ∧ zA σ 15 k q = zA μ 62 0 (6 * k + q)
    rw [eN]
    unfold f_X4_begin
    by_cases e : k = zn μ 842
    · subst e
      refine ⟨by simp [zI_pI, zI_pL, zI_pA, zL_pI, zL_pL, zL_pA, zA_pI, zA_pL, zA_pA, z2.1], by simp [zI_pI, zI_pL, zI_pA, zL_pI, zL_pL, zL_pA, zA_pI, zA_pL, zA_pA, z2.2], fun q hq => ?_⟩
      rw [z2.1] at hq
      exact absurd hq (Nat.not_lt_zero _)
    · have := hl k (by omega)
      refine ⟨by simp [zI_pI, zI_pL, zI_pA, zL_pI, zL_pL, zL_pA, zA_pI, zA_pL, zA_pA, e, this.1], by simp [zI_pI, zI_pL, zI_pA, zL_pI, zL_pL, zL_pA, zA_pI, zA_pL, zA_pA, e, this.2.1], this.2.2⟩
  · refine ymod_tick hm hN ⟨b1, b2, b3, zbd_up b4 (by decide) hlt rfl, b5⟩ md ms mw mk mp ?_ ?_ mf ⟨mz.1, fun l hl1 hl2 => mz.2.1 l (by rw [up.2] at hl1; omega) hl2, mz.2.2⟩ rfl rfl (fun k hk c => rfl) rfl (Nat.le_succ_of_le mb)
    · intro l hl2
      rw [up.2] at hl2
      by_cases e : l = zn μ 842
      · subst e
        exact ⟨0, by decide, z2.1, Or.inl z2.2, fun q hq => absurd hq (Nat.not_lt_zero _)⟩
      · exact ml l (by omega)
    · intro l l' hl2 hl3 e1 e2 q q' hq hq' e3
      rw [up.2] at hl2 hl3
      by_cases e : l = zn μ 842
      · subst e
        have hq : q < (zA μ 59 0 (zn μ 842)).toNatClampNeg := hq
        rw [z2.1] at hq
        exact absurd hq (Nat.not_lt_zero _)
      · by_cases e' : l' = zn μ 842
        · subst e'
          have hq' : q' < (zA μ 59 0 (zn μ 842)).toNatClampNeg := hq'
          rw [z2.1] at hq'
          exact absurd hq' (Nat.not_lt_zero _)
        · exact mx l l' (by omega) (by omega) e1 e2 q q' hq hq' e3
end ZAD
