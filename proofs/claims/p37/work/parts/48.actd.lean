section ZAG
variable {σ μ τ : zS}
/-- the tick alone -/
theorem zt_tick (h : zsim σ μ τ) (hm : ymod μ τ) (hN : zn τ 512 < 512) : zsim (zpI σ 512 0 (zI σ 512 0 + 1)) μ (zt1 τ) ∧ ymod μ (zt1 τ) := by
  obtain ⟨hn, hg, hmm, hc, he, hw, hh, hp, hr, hl, hf⟩ := id h
  obtain ⟨n1, n2, n3, n4, n5, n6, n7, n8, n9⟩ := id hn
  obtain ⟨mn, md, ms, mw, mk, mp, ml, mx, mf, mz, t0, tc, tf, tx, mb⟩ := id hm
  obtain ⟨b1, b2, b3, b4, b5⟩ := id mn
  refine ⟨⟨⟨n1, n2, n3, n4, n5, n6, n7, n8, ?_⟩, hg, hmm, hc, he, hw, hh, hp, hr, hl, hf⟩, ymod_tick hm hN mn md ms mw mk mp ml mx mf mz rfl rfl (fun k hk c => rfl) rfl (Nat.le_succ_of_le mb)⟩
  show zI σ 512 0 + 1 = zI τ 512 0 + 1
  rw [n9]
/-! a finding is made -/
def g_F (μ : zS) (c : Nat) : zS := zpI (zpI (zpA (zpA (zpA (zpA (zpA μ 63 0 (zn μ 843) (nI c)) 64 0 (zn μ 843) (zA μ 41 0 c)) 65 0 (zn μ 843) (zI μ 846 0)) 66 0 (zn μ 843) 0) 67 0 (zn μ 843) 45) 846 0 (zI μ 846 0 + 1)) 843 0 (zI μ 843 0 + 1)
theorem g_F_eq {c : Nat} (hc : c < 24) : f_X10_finds μ (nI c) = g_F μ c := by
  unfold f_X10_finds g_F
  rw [nI_clamp (by omega)]
  rfl
def zfT (τ : zS) (n : Nat) : zS := zpI (zpI τ 305 n (zI τ 512 0)) 306 n 0
theorem zn_512T (τ : zS) (n : Nat) : zn (zfT τ n) 512 = zn τ 512 := rfl
theorem sm_F (h : zsim σ μ τ) (hm : ymod μ τ) (hN1 : 1 ≤ zn τ 512) (ha : zn μ 846 + 1 ≤ 2 * zn τ 512) {c : Nat} (hc1 : c < zn μ 840) (hf12 : zn μ 843 < 12) : zsim (f_X5_noteFinding σ (nI c)) (g_F μ c) (zfT τ (zn μ 843)) ∧ ymod (g_F μ c) (zfT τ (zn μ 843)) := by
  obtain ⟨hn, hg, hmm, hc, he, hw, hh, hp, hr, hl, hf⟩ := id h
  obtain ⟨n1, n2, n3, n4, n5, n6, n7, n8, n9⟩ := id hn
  obtain ⟨mn, md, ms, mw, mk, mp, ml, mx, mf, mz, t0, tc, tf, tx, mb⟩ := id hm
  obtain ⟨b1, b2, b3, b4, b5⟩ := id mn
  have hb2 := b2.2
  have eF : zn σ 508 = zn μ 843 := zn_eq n5
  have up := zn_up b5 (by decide) (ν := g_F μ c) (g := 843) rfl
  have z68 := mz.2.2 (zn μ 843) (Nat.le_refl _) hf12
  have hN512 := t0.1.2
  have upa := zn_up t0.2.1 (by decide) (ν := g_F μ c) (g := 846) rfl
  have e512 := t0.1.1
  unfold f_X5_noteFinding
  rw [nI_clamp (by omega)]
  show zsim (zpI (f_X3_begin σ (zn σ 508) (nI c) (zI σ 110 c) (zI σ 512 0)) 508 0 (zI (f_X3_begin σ (zn σ 508) (nI c) (zI σ 110 c) (zI σ 512 0)) 508 0 + 1)) _ _ ∧ _
  rw [eF]
  unfold f_X3_begin
  refine ⟨⟨⟨n1, n2, n3, n4, ?_, n6, n7, n8, ?_⟩, hg, hmm, hc, he, hw, hh, hp, hr, hl, ?_⟩, ?_⟩
  · show zI σ 508 0 + 1 = zI μ 843 0 + 1
    rw [n5]
  · exact n9
  · intro d hd
    rw [up.2] at hd
    by_cases e : d = zn μ 843
    · subst e
      unfold g_F zfT
      have := (hc c hc1).2.1
      simp [zI_pI, zI_pL, zI_pA, zL_pI, zL_pL, zL_pA, zA_pI, zA_pL, zA_pA, this, n9, z68]
    · have := hf d (by omega)
      unfold g_F zfT
      simp [zI_pI, zI_pL, zI_pA, zL_pI, zL_pL, zL_pA, zA_pI, zA_pL, zA_pA, e, this]
  · refine ⟨⟨b1, b2, b3, b4, zbd_up b5 (by decide) hf12 rfl⟩, md, ms, mw, mk, mp, ml, mx, ?_, ⟨mz.1, mz.2.1, fun d h1 h2 => mz.2.2 d (by rw [up.2] at h1; omega) h2⟩, ⟨t0.1, ⟨by rw [upa.1, upa.2], by rw [upa.2]; omega⟩, by omega, by rw [upa.2]; exact ha⟩, fun d hd => ?_, fun d hd => ?_, fun f d hf1 hd => ?_, mb⟩
    · intro d hd
      rw [up.2] at hd
      by_cases e : d = zn μ 843
      · subst e
        refine ⟨⟨c, hc1, by unfold g_F; simp [zI_pI, zI_pL, zI_pA, zL_pI, zL_pL, zL_pA, zA_pI, zA_pL, zA_pA]⟩, ?_, Or.inl z68, 0, by decide, by unfold g_F; simp [zI_pI, zI_pL, zI_pA, zL_pI, zL_pL, zL_pA, zA_pI, zA_pL, zA_pA]; rfl⟩
        have := (mk c hc1).1
        have e64 : zA (g_F μ c) 64 0 (zn μ 843) = zA μ 41 0 c := by unfold g_F; simp [zI_pI, zI_pL, zI_pA, zL_pI, zL_pL, zL_pA, zA_pI, zA_pL, zA_pA]
        rw [e64]
        exact this
      · have := mf d (by omega)
        have hz : ∀ k, zA (g_F μ c) k 0 d = zA μ k 0 d := fun k => by unfold g_F; simp [zI_pI, zI_pL, zI_pA, zL_pI, zL_pL, zL_pA, zA_pI, zA_pL, zA_pA, e]
        simp only [hz]
        exact this
    · have := tc d hd
      rw [upa.2]
      show tC (zn τ 512) _ (zI τ 116 d).toInt (zI τ 117 d).toInt (zA μ 48 0 d).toInt (zA μ 49 0 d).toInt (zA μ 46 0 d).toInt (zA μ 47 0 d).toInt (zA μ 45 0 d).toInt (zA μ 50 0 d).toInt (zA μ 51 0 d).toInt
      unfold tC at this ⊢
      omega
    · rw [up.2] at hd
      rw [upa.2]
      show tF (zn τ 512) _ _ _ _
      by_cases e : d = zn μ 843
      · subst e
        have i1 : (zI (zfT τ (zn μ 843)) 305 (zn μ 843)).toInt = (zn τ 512 : Int) := by
          unfold zfT
          simp only [zI_pI, and_true, true_and, if_true, and_self, if_false, show ¬ (305 : Nat) = 306 by decide, false_and]
          rw [e512, nI_toInt (by omega)]
        have i2 : (zI (zfT τ (zn μ 843)) 306 (zn μ 843)).toInt = 0 := by
          unfold zfT
          simp [zI_pI]
        have i3 : (zA (g_F μ c) 65 0 (zn μ 843)).toInt = (zn μ 846 : Int) := by
          unfold g_F
          simp only [zI_pI, zI_pL, zI_pA, zL_pI, zL_pL, zL_pA, zA_pI, zA_pL, zA_pA, and_true, true_and, if_true, and_self, if_false, show ¬ (65 : Nat) = 67 by decide, show ¬ (65 : Nat) = 66 by decide, false_and]
          rw [t0.2.1.1, nI_toInt (by have := t0.2.1.2; omega)]
        rw [i1, i2, i3]
        unfold tF
        omega
      · have := tf d (by omega)
        have i1 : zI (zfT τ (zn μ 843)) 305 d = zI τ 305 d := by unfold zfT; simp [zI_pI, e]
        have i2 : zI (zfT τ (zn μ 843)) 306 d = zI τ 306 d := by unfold zfT; simp [zI_pI, e]
        have i3 : zA (g_F μ c) 65 0 d = zA μ 65 0 d := by unfold g_F; simp [zI_pI, zI_pL, zI_pA, zL_pI, zL_pL, zL_pA, zA_pI, zA_pL, zA_pA, e]
        rw [i1, i2, i3]
        unfold tF at this ⊢
        omega
    · rw [up.2] at hf1
      show tX (zA (g_F μ c) 63 0 f = nI d) _ _ (zI τ 116 d).toInt (zI τ 117 d).toInt _ (zA μ 46 0 d).toInt (zA μ 47 0 d).toInt (zA μ 45 0 d).toInt (zA μ 50 0 d).toInt (zA μ 51 0 d).toInt
      by_cases e : f = zn μ 843
      · subst e
        have hC := tc d hd
        have i1 : (zI (zfT τ (zn μ 843)) 305 (zn μ 843)).toInt = (zn τ 512 : Int) := by
          unfold zfT
          simp only [zI_pI, and_true, true_and, if_true, and_self, if_false, show ¬ (305 : Nat) = 306 by decide, false_and]
          rw [e512, nI_toInt (by omega)]
        have i2 : (zI (zfT τ (zn μ 843)) 306 (zn μ 843)).toInt = 0 := by
          unfold zfT
          simp [zI_pI]
        have i3 : (zA (g_F μ c) 65 0 (zn μ 843)).toInt = (zn μ 846 : Int) := by
          unfold g_F
          simp only [zI_pI, zI_pL, zI_pA, zL_pI, zL_pL, zL_pA, zA_pI, zA_pL, zA_pA, and_true, true_and, if_true, and_self, if_false, show ¬ (65 : Nat) = 67 by decide, show ¬ (65 : Nat) = 66 by decide, false_and]
          rw [t0.2.1.1, nI_toInt (by have := t0.2.1.2; omega)]
        rw [i1, i2, i3]
        unfold tC at hC
        unfold tX
        generalize (zA (g_F μ c) 63 0 (zn μ 843) = nI d) = own
        refine ⟨fun z => ?_, fun z => ?_, fun _ => ⟨?_, fun z => ?_, fun z => ?_, fun z => ?_⟩⟩ <;> omega
      · have := tx f d (by omega) hd
        have i1 : zI (zfT τ (zn μ 843)) 305 f = zI τ 305 f := by unfold zfT; simp [zI_pI, e]
        have i2 : zI (zfT τ (zn μ 843)) 306 f = zI τ 306 f := by unfold zfT; simp [zI_pI, e]
        have i3 : zA (g_F μ c) 65 0 f = zA μ 65 0 f := by unfold g_F; simp [zI_pI, zI_pL, zI_pA, zL_pI, zL_pL, zL_pA, zA_pI, zA_pL, zA_pA, e]
        have i4 : zA (g_F μ c) 63 0 f = zA μ 63 0 f := by unfold g_F; simp [zI_pI, zI_pL, zI_pA, zL_pI, zL_pL, zL_pA, zA_pI, zA_pL, zA_pA, e]
        rw [i1, i2, i3, i4]
        exact this
/-! 12: find -/
theorem ok_12 (h : zsim σ μ τ) (hm : ymod μ τ) (w1 : Int32) : (f_X10_find μ w1 = if k_ref σ (nI 12) w1 0 0 0 = 0 then zpI (g_F μ w1.toNatClampNeg) 838 0 0 else zpI μ 838 0 (zkc [1, 4] (k_ref σ (nI 12) w1 0 0 0))) ∧ (k_ref σ (nI 12) w1 0 0 0 = 0 → ∃ c, c < zn μ 840 ∧ w1 = nI c ∧ zn μ 843 < 12 ∧ r_X10_find μ w1 = k_pr σ (nI 12) w1 0 0 0) := by
  obtain ⟨hn, hg, hmm, hc, he, hw, hh, hp, hr, hl, hf⟩ := id h
  obtain ⟨n1, n2, n3, n4, n5, n6, n7, n8, n9⟩ := id hn
  obtain ⟨mn, md, ms, mw, mk, mp, ml, mx, mf, mz, t0, tc, tf, tx, mb⟩ := id hm
  obtain ⟨b1, b2, b3, b4, b5⟩ := id mn
  rw [show nI 12 = 12 from rfl, k_ref_12, k_pr_12]
  unfold r_X8_refusalOf_12 r_X8_ofFind f_X10_find r_X10_find
  rw [zr_has_c h hm, n5]
  have cap : (12 : Int32) ≤ zI μ 843 0 ↔ zI μ 843 0 = 12 := zr_cap (N := 12) b5 (by decide)
  cases h1 : y_has μ 840 w1
  · exact ⟨rfl, fun z => by simp at z⟩
  · obtain ⟨c, hc1, rfl⟩ := yhas_lt b2 (by decide) h1
    have := b2.2
    by_cases c1 : zI μ 843 0 = 12
    · have c2 := cap.mpr c1
      rw [if_pos rfl, if_pos rfl, if_pos rfl, if_neg (not_not_intro c1), if_pos c2]
      exact ⟨rfl, fun z => absurd z (by decide)⟩
    · have c2 : ¬ (12 : Int32) ≤ zI μ 843 0 := fun z => c1 (cap.mp z)
      rw [if_pos rfl, if_pos rfl, if_pos rfl, if_pos c1, if_neg c2, if_pos c1, g_F_eq (by omega), nI_clamp (by omega)]
      refine ⟨rfl, fun _ => ⟨c, hc1, rfl, zr_cap2 b5 (by decide) c1, ?_⟩⟩
      show zI μ 843 0 + 1 - 1 = zI σ 508 0 + 1 - 1
      rw [n5]
theorem sm_12 (h : zsim σ μ τ) (hm : ymod μ τ) (hN : zn τ 512 < 512) {w1 : Int32} (h0 : k_ref σ (nI 12) w1 0 0 0 = 0) : zsim (k_pf σ (nI 12) w1 0 0 0) (g_F μ w1.toNatClampNeg) (zfT (zt1 τ) (zn μ 843)) ∧ ymod (g_F μ w1.toNatClampNeg) (zfT (zt1 τ) (zn μ 843)) := by
  obtain ⟨c, hc1, rfl, hf12, -⟩ := (ok_12 h hm w1).2 h0
  obtain ⟨q1, q2⟩ := zt_tick h hm hN
  have hb2 := hm.1.2.1.2
  have e1 := zt1_n hm
  have := hm.2.2.2.2.2.2.2.2.2.2.1.2.2.2
  rw [show nI 12 = 12 from rfl, k_pf_12, nI_clamp (by omega)]
  exact sm_F q1 q2 (by omega) (by omega) hc1 hf12
/-! 2: addCanopy -/
def g_2 (μ : zS) (w1 w2 w3 w4 : Int32) : zS := zpI (zpA (zpA (zpA (zpA (zpA (zpA (zpA (zpA (zpA (zpA μ 33 0 (zn μ 840) w1) 34 0 (zn μ 840) w2) 35 0 (zn μ 840) w3) 36 0 (zn μ 840) w4) 37 0 (zn μ 840) (zI μ 844 0)) 38 0 (zn μ 840) 111) 41 0 (zn μ 840) (-1)) 45 0 (zn μ 840) (-1)) 46 0 (zn μ 840) (-1)) 47 0 (zn μ 840) (-1)) 840 0 (zI μ 840 0 + 1)
def zcT (τ : zS) (n : Nat) : zS := zpI (zpI τ 116 n 0) 117 n 0
theorem ok_2 (h : zsim σ μ τ) (hm : ymod μ τ) (w1 w2 w3 w4 : Int32) : (f_X10_addCanopy μ w1 w2 w3 w4 = if k_ref σ (nI 2) w1 w2 w3 w4 = 0 then zpI (g_2 μ w1 w2 w3 w4) 838 0 0 else zpI μ 838 0 (zkc [2, 4] (k_ref σ (nI 2) w1 w2 w3 w4))) ∧ (k_ref σ (nI 2) w1 w2 w3 w4 = 0 → zn μ 840 < 24 ∧ (w1.toUInt32 % 65536).toInt32 = w1 ∧ r_X10_addCanopy μ w1 w2 w3 w4 = k_pr σ (nI 2) w1 w2 w3 w4) := by
  obtain ⟨hn, hg, hmm, hc, he, hw, hh, hp, hr, hl, hf⟩ := id h
  obtain ⟨n1, n2, n3, n4, n5, n6, n7, n8, n9⟩ := id hn
  obtain ⟨mn, md, ms, mw, mk, mp, ml, mx, mf, mz, t0, tc, tf, tx, mb⟩ := id hm
  obtain ⟨b1, b2, b3, b4, b5⟩ := id mn
  rw [show nI 2 = 2 from rfl, k_ref_2, k_pr_2]
  unfold r_X8_refusalOf_2 r_X8_ofAddCanopy f_X10_addCanopy r_X10_addCanopy
  rw [n2]
  have cap : (24 : Int32) ≤ zI μ 840 0 ↔ zI μ 840 0 = 24 := zr_cap (N := 24) b2 (by decide)
  have hres : zI μ 840 0 = r_X5_perform_2 σ w1 w2 w3 w4 := by
    show _ = zI σ 506 0 + 1 - 1
    rw [n2]
    exact (Int32.add_sub_cancel _ _).symm
  by_cases d1 : w1 = 109
  · subst d1
    cases k_in w2 0 9
    · exact ⟨rfl, fun z => by simp at z⟩
    · cases k_in w3 0 9
      · exact ⟨rfl, fun z => by simp at z⟩
      · cases k_in w4 1 9999
        · exact ⟨rfl, fun z => by simp at z⟩
        · by_cases c1 : zI μ 840 0 = 24
          · have c2 := cap.mpr c1
            simp only [c1, c2, if_true, if_false, not_true_eq_false, Bool.true_eq_false]
            exact ⟨rfl, fun z => absurd z (by decide)⟩
          · have c2 : ¬ (24 : Int32) ≤ zI μ 840 0 := fun z => c1 (cap.mp z)
            simp only [c1, c2, if_true, if_false, not_false_eq_true, Bool.true_eq_false]
            refine ⟨rfl, fun _ => ⟨zr_cap2 b2 (by decide) c1, by decide, ?_⟩⟩
            (try simp only [not_true_eq_false, if_false])
            refine Eq.trans ?_ hres
            rfl
  · by_cases d2 : w1 = 114
    · subst d2
      cases k_in w2 0 9
      · exact ⟨rfl, fun z => by simp at z⟩
      · cases k_in w3 0 9
        · exact ⟨rfl, fun z => by simp at z⟩
        · cases k_in w4 1 9999
          · exact ⟨rfl, fun z => by simp at z⟩
          · by_cases c1 : zI μ 840 0 = 24
            · have c2 := cap.mpr c1
              simp only [d1, c1, c2, if_true, if_false, not_true_eq_false, Bool.true_eq_false]
              exact ⟨rfl, fun z => absurd z (by decide)⟩
            · have c2 : ¬ (24 : Int32) ≤ zI μ 840 0 := fun z => c1 (cap.mp z)
              simp only [d1, c1, c2, if_true, if_false, not_false_eq_true, Bool.true_eq_false]
              refine ⟨rfl, fun _ => ⟨zr_cap2 b2 (by decide) c1, by decide, ?_⟩⟩
              (try simp only [not_true_eq_false, if_false])
              refine Eq.trans ?_ hres
              rfl
    · simp only [d1, d2, if_false]
      exact ⟨rfl, fun z => absurd z (by decide)⟩
theorem sm_2 (h : zsim σ μ τ) (hm : ymod μ τ) (hN : zn τ 512 < 512) {w1 w2 w3 w4 : Int32} (h0 : k_ref σ (nI 2) w1 w2 w3 w4 = 0) : zsim (k_pf σ (nI 2) w1 w2 w3 w4) (g_2 μ w1 w2 w3 w4) (zcT (zt1 τ) (zn μ 840)) ∧ ymod (g_2 μ w1 w2 w3 w4) (zcT (zt1 τ) (zn μ 840)) := by
  obtain ⟨hlt, ew, -⟩ := (ok_2 h hm w1 w2 w3 w4).2 h0
  obtain ⟨hn, hg, hmm, hc, he, hw, hh, hp, hr, hl, hf⟩ := id h
  obtain ⟨n1, n2, n3, n4, n5, n6, n7, n8, n9⟩ := id hn
  obtain ⟨mn, md, ms, mw, mk, mp, ml, mx, mf, mz, t0, tc, tf, tx, mb⟩ := id hm
  obtain ⟨b1, b2, b3, b4, b5⟩ := id mn
  rw [show nI 2 = 2 from rfl, k_pf_2]
  have eC : zn σ 506 = zn μ 840 := zn_eq n2
  have up := zn_up b2 (by decide) (ν := g_2 μ w1 w2 w3 w4) (g := 840) rfl
  obtain ⟨z1, z2, z3, z4, z5, z6, z7, z8⟩ := mz.1 (zn μ 840) (Nat.le_refl _) hlt
  have eN := zt1_n hm
  have hNb := zt1_b hm hN
  have e1 : f_X5_perform_2 σ w1 w2 w3 w4 = zpI (f_X1_begin (zpI σ 512 0 (zI σ 512 0 + 1)) (zn μ 840) w1 w2 w3 w4 (zI σ 509 0)) 506 0 (zI σ 506 0 + 1) := by
    show zpI (f_X1_begin (zpI σ 512 0 (zI σ 512 0 + 1)) (zn σ 506) ((w1.toUInt32 % 65536).toInt32) w2 w3 w4 (zI σ 509 0)) 506 0 (zI σ 506 0 + 1) = _
    rw [eC, ew]
  rw [e1]
  unfold f_X1_begin
  have hno : ∀ i, i < zn μ 841 → ¬ zA μ 55 0 i = nI (zn μ 840) := fun i hi z => by
    obtain ⟨o, ho, eo⟩ := (mp i hi).1
    have := nI_inj' (by omega) (by omega) (eo.symm.trans z)
    omega
  refine ⟨⟨⟨n1, ?_, n3, n4, n5, n6, n7, n8, ?_⟩, hg, ?_, ?_, ?_, ?_, ?_, hp, hr, hl, hf⟩, ?_⟩
  · show zI σ 506 0 + 1 = zI μ 840 0 + 1
    rw [n2]
  · show zI σ 512 0 + 1 = zI τ 512 0 + 1
    rw [n9]
  · intro d hd
    rw [up.2] at hd
    by_cases e : d = zn μ 840
    · subst e
      unfold g_2
      simp [zI_pI, zI_pL, zI_pA, zL_pI, zL_pL, zL_pA, zA_pI, zA_pL, zA_pA, n6]
    · have := hmm d (by omega)
      unfold g_2
      simp [zI_pI, zI_pL, zI_pA, zL_pI, zL_pL, zL_pA, zA_pI, zA_pL, zA_pA, e, this]
  · intro d hd
    rw [up.2] at hd
    by_cases e : d = zn μ 840
    · subst e
      unfold g_2 zcT
      simp [zI_pI, zI_pL, zI_pA, zL_pI, zL_pL, zL_pA, zA_pI, zA_pL, zA_pA, z2, z3, z4]
    · have := hc d (by omega)
      unfold g_2 zcT zt1
      simp [zI_pI, zI_pL, zI_pA, zL_pI, zL_pL, zL_pA, zA_pI, zA_pL, zA_pA, e, this]
  · intro d hd
    rw [up.2] at hd
    show _ = nI (y_cp μ d (zn μ 841)) ∧ _ = y_hE μ d (zn μ 841) ∧ _ = y_aE μ d (zn μ 841)
    by_cases e : d = zn μ 840
    · subst e
      have i1 : y_cp μ (zn μ 840) (zn μ 841) = 0 := zct_0 (fun i hi => decide_eq_false (hno i hi))
      have i2 : y_hE μ (zn μ 840) (zn μ 841) = 0 := zorI_0 (fun i hi => if_neg (hno i hi))
      have i3 : y_aE μ (zn μ 840) (zn μ 841) = 0 := zorL_0 (fun i hi => if_neg (hno i hi))
      rw [i1, i2, i3]
      simp [zI_pI, zI_pL, zI_pA, zL_pI, zL_pL, zL_pA, zA_pI, zA_pL, zA_pA]
      rfl
    · have := he d (by omega)
      simp [zI_pI, zI_pL, zI_pA, zL_pI, zL_pL, zL_pA, zA_pI, zA_pL, zA_pA, e, this]
  · intro d hd
    rw [up.2] at hd
    by_cases e : d = zn μ 840
    · subst e
      unfold g_2
      refine ⟨fun z => ?_, fun z => by simp [zI_pI, zI_pL, zI_pA, zL_pI, zL_pL, zL_pA, zA_pI, zA_pL, zA_pA]⟩
      simp [zI_pI, zI_pL, zI_pA, zL_pI, zL_pL, zL_pA, zA_pI, zA_pL, zA_pA] at z
    · have := hw d (by omega)
      unfold g_2
      simpa [zI_pI, zI_pL, zI_pA, zL_pI, zL_pL, zL_pA, zA_pI, zA_pL, zA_pA, e] using this
  · intro d hd
    rw [up.2] at hd
    by_cases e : d = zn μ 840
    · subst e
      unfold g_2
      refine ⟨fun z => ?_, fun z => by simp [zI_pI, zI_pL, zI_pA, zL_pI, zL_pL, zL_pA, zA_pI, zA_pL, zA_pA]⟩
      simp [zI_pI, zI_pL, zI_pA, zL_pI, zL_pL, zL_pA, zA_pI, zA_pL, zA_pA] at z
    · have := hh d (by omega)
      unfold g_2
      simpa [zI_pI, zI_pL, zI_pA, zL_pI, zL_pL, zL_pA, zA_pI, zA_pL, zA_pA, e] using this
  · have hz : ∀ d, d ≠ zn μ 840 → ∀ k, zA (g_2 μ w1 w2 w3 w4) k 0 d = zA μ k 0 d := fun d hd k => by
      unfold g_2
      simp [zI_pI, zI_pL, zI_pA, zL_pI, zL_pL, zL_pA, zA_pI, zA_pL, zA_pA, hd]
    have hk38 : zA (g_2 μ w1 w2 w3 w4) 38 0 (zn μ 840) = 111 := by unfold g_2; simp [zI_pI, zI_pL, zI_pA, zL_pI, zL_pL, zL_pA, zA_pI, zA_pL, zA_pA]
    refine ⟨⟨b1, zbd_up b2 (by decide) hlt rfl, b3, b4, b5⟩, md, fun d hd => ?_, fun d hd z => ?_, fun d hd => ?_, fun i hi => ?_, fun l hl1 => ?_, mx, fun f hf1 => ?_, ⟨fun d h1 h2 => ?_, mz.2.1, mz.2.2⟩, ⟨hNb, t0.2.1, t0.2.2.1, by show zn μ 846 ≤ 2 * zn (zt1 τ) 512; rw [eN]; have := t0.2.2.2; omega⟩, fun d hd => ?_, fun f hf1 => ?_, fun f d hf1 hd => ?_, ?_⟩
    · rw [up.2] at hd
      by_cases e : d = zn μ 840
      · rw [e]; exact Or.inl hk38
      · rw [hz d e]; exact ms d (by omega)
    · rw [up.2] at hd
      by_cases e : d = zn μ 840
      · rw [e, hk38] at z; exact absurd z (by decide)
      · rw [hz d e] at z
        rw [hz d e, hz d e]
        obtain ⟨w1, k, hk, ek, hq⟩ := mw d (by omega) z
        exact ⟨w1, k, hk, ek, hq⟩
    · rw [up.2] at hd
      by_cases e : d = zn μ 840
      · subst e
        refine ⟨Or.inl (by unfold g_2; simp [zI_pI, zI_pL, zI_pA, zL_pI, zL_pL, zL_pA, zA_pI, zA_pL, zA_pA]), fun z => ?_⟩
        unfold y_ready at z
        rw [hk38] at z
        exact absurd z (by decide)
      · have := mk d (by omega)
        unfold y_ready at this ⊢
        rw [hz d e, hz d e]
        exact this
    · obtain ⟨⟨o, ho, eo⟩, q⟩ := mp i hi
      exact ⟨⟨o, by rw [up.2]; omega, eo⟩, q⟩
    · obtain ⟨a, ha, ea, h60, hq⟩ := ml l hl1
      refine ⟨a, ha, ea, h60, fun q hqa => ?_⟩
      obtain ⟨m, r, hm1, hr1, q1, q2, q3, q4, q5⟩ := hq q hqa
      refine ⟨m, r, by rw [up.2]; omega, by rw [up.2]; omega, q1, q2, by rw [hz m (by omega)]; exact q3, by rw [hz r (by omega)]; exact q4, fun z => ?_⟩
      rw [hz m (by omega), hz r (by omega)]
      exact q5 z
    · obtain ⟨⟨o, ho, eo⟩, q⟩ := mf f hf1
      exact ⟨⟨o, by rw [up.2]; omega, eo⟩, q⟩
    · rw [up.2] at h1
      have hd : d ≠ zn μ 840 := by omega
      simp only [hz d hd]
      exact mz.1 d (by omega) h2
    · rw [up.2] at hd
      show tC (zn (zt1 τ) 512) (zn μ 846) _ _ _ _ _ _ _ _ _
      rw [eN]
      by_cases e : d = zn μ 840
      · subst e
        have i1 : (zI (zcT (zt1 τ) (zn μ 840)) 116 (zn μ 840)).toInt = 0 := by unfold zcT; simp [zI_pI]
        have i2 : (zI (zcT (zt1 τ) (zn μ 840)) 117 (zn μ 840)).toInt = 0 := by unfold zcT; simp [zI_pI]
        have j1 : (zA (g_2 μ w1 w2 w3 w4) 48 0 (zn μ 840)).toInt = 0 := by unfold g_2; simp [zI_pI, zI_pL, zI_pA, zL_pI, zL_pL, zL_pA, zA_pI, zA_pL, zA_pA, z5]
        have j2 : (zA (g_2 μ w1 w2 w3 w4) 49 0 (zn μ 840)).toInt = 0 := by unfold g_2; simp [zI_pI, zI_pL, zI_pA, zL_pI, zL_pL, zL_pA, zA_pI, zA_pL, zA_pA, z6]
        have j3 : (zA (g_2 μ w1 w2 w3 w4) 46 0 (zn μ 840)).toInt = -1 := by unfold g_2; simp [zI_pI, zI_pL, zI_pA, zL_pI, zL_pL, zL_pA, zA_pI, zA_pL, zA_pA]
        have j4 : (zA (g_2 μ w1 w2 w3 w4) 47 0 (zn μ 840)).toInt = -1 := by unfold g_2; simp [zI_pI, zI_pL, zI_pA, zL_pI, zL_pL, zL_pA, zA_pI, zA_pL, zA_pA]
        have j5 : (zA (g_2 μ w1 w2 w3 w4) 45 0 (zn μ 840)).toInt = -1 := by unfold g_2; simp [zI_pI, zI_pL, zI_pA, zL_pI, zL_pL, zL_pA, zA_pI, zA_pL, zA_pA]
        rw [i1, i2, j1, j2, j3, j4, j5]
        unfold tC
        omega
      · have := tc d (by omega)
        have i1 : zI (zcT (zt1 τ) (zn μ 840)) 116 d = zI τ 116 d := by unfold zcT zt1; simp [zI_pI, e]
        have i2 : zI (zcT (zt1 τ) (zn μ 840)) 117 d = zI τ 117 d := by unfold zcT zt1; simp [zI_pI, e]
        rw [i1, i2]
        simp only [hz d e]
        unfold tC at this ⊢
        omega
    · have := tf f hf1
      show tF (zn (zt1 τ) 512) (zn μ 846) (zI τ 305 f).toInt (zI τ 306 f).toInt (zA μ 65 0 f).toInt
      rw [eN]
      unfold tF at this ⊢
      omega
    · rw [up.2] at hd
      show tX (zA μ 63 0 f = nI d) (zI τ 305 f).toInt (zI τ 306 f).toInt _ _ (zA μ 65 0 f).toInt _ _ _ _ _
      by_cases e : d = zn μ 840
      · subst e
        have i1 : (zI (zcT (zt1 τ) (zn μ 840)) 116 (zn μ 840)).toInt = 0 := by unfold zcT; simp [zI_pI]
        have i2 : (zI (zcT (zt1 τ) (zn μ 840)) 117 (zn μ 840)).toInt = 0 := by unfold zcT; simp [zI_pI]
        rw [i1, i2]
        refine ⟨fun z => absurd z (by omega), fun z => absurd z (by omega), fun own => ?_⟩
        obtain ⟨o, ho, eo⟩ := (mf f hf1).1
        have := nI_inj' (by omega) (by omega) (eo.symm.trans own)
        omega
      · have := tx f d hf1 (by omega)
        have i1 : zI (zcT (zt1 τ) (zn μ 840)) 116 d = zI τ 116 d := by unfold zcT zt1; simp [zI_pI, e]
        have i2 : zI (zcT (zt1 τ) (zn μ 840)) 117 d = zI τ 117 d := by unfold zcT zt1; simp [zI_pI, e]
        rw [i1, i2]
        simp only [hz d e]
        exact this
    · show 6 * zn μ 841 + zsmN (y_wk (g_2 μ w1 w2 w3 w4)) (zn (g_2 μ w1 w2 w3 w4) 840) ≤ zn (zt1 τ) 512
      rw [eN, up.2, zsmN, zsmN_congr (q := y_wk μ) (fun i hi => by unfold y_wk; rw [hz i (by omega), hz i (by omega)])]
      have : y_wk (g_2 μ w1 w2 w3 w4) (zn μ 840) = 0 := by unfold y_wk; rw [hk38]; rfl
      rw [this]
      have := mb
      unfold ym_b at this
      omega
end ZAG
