section ZAJ
variable {σ μ τ : zS}
/-! 19: back -/
def y_paid (μ : zS) (c : Nat) (dm : Bool) : Int32 := k_max 0 (zA μ 53 0 c - (5 * k_max 0 (zI μ 844 0 - zA μ 52 0 c) + if dm = true then 50 else 0))
def g_19b (μ : zS) (c : Nat) (us dm : Bool) : zS := zpA (zpL μ 847 0 (zL μ 847 0 + (zA μ 53 0 c - y_paid μ c dm).toInt64)) 38 0 c (if us = true then 111 else 107)
def k_paid (σ : zS) (c : Nat) (dm : Bool) : Int32 := k_max 0 (zI σ 119 c - (5 * k_max 0 (zI σ 509 0 - zI σ 118 c) + if dm = true then 50 else 0))
def s_19b (σ : zS) (c : Nat) (us dm : Bool) : zS := zpI (zpI (zpI (zpL σ 511 0 (zL σ 511 0 + (zI σ 119 c - k_paid σ c dm).toInt64)) 105 c (if us = true then 111 else 107)) 118 c 0) 119 c 0
theorem bI_eq1 (b : Bool) : (bI b = 1) = (b = true) := by cases b <;> simp [bI]
theorem s_19_eq (σ : zS) (w1 : Int32) (us dm : Bool) : f_X5_takeIn σ w1 us dm = (if dm = true then f_X5_noteFindingIfRoom (s_19b σ w1.toNatClampNeg us dm) w1 else s_19b σ w1.toNatClampNeg us dm) ∧ r_X5_takeIn σ w1 us dm = k_paid σ w1.toNatClampNeg dm := by
  unfold f_X5_takeIn r_X5_takeIn s_19b k_paid
  cases us <;> cases dm <;> simp only [if_true, if_false, Bool.false_eq_true, Bool.true_eq_false, and_self]
theorem k_pf_19b (σ : zS) (w1 : Int32) (us dm : Bool) : k_pf σ (nI 19) w1 (bI us) (bI dm) 0 = f_X5_takeIn (zpI σ 512 0 (zI σ 512 0 + 1)) w1 us dm ∧ k_pr σ (nI 19) w1 (bI us) (bI dm) 0 = r_X5_takeIn (zpI σ 512 0 (zI σ 512 0 + 1)) w1 us dm := by
  rw [show nI 19 = 19 from rfl, k_pf_19, k_pr_19]
  unfold f_X5_perform_19 r_X5_perform_19
  simp only [bI_eq1]
  cases us <;> cases dm <;> simp only [if_true, if_false, Bool.false_eq_true, not_true_eq_false, not_false_eq_true, and_self]
theorem fx_19 {w1 : Int32} (h1 : y_has μ 840 w1 = true) (h2 : zA μ 38 0 w1.toNatClampNeg = 104) (us dm : Bool) : f_X10_back μ w1 us dm = (if dm = false ∨ 12 ≤ zI μ 843 0 then zpI (g_19b μ w1.toNatClampNeg us dm) 838 0 0 else zpI (f_X10_finds (g_19b μ w1.toNatClampNeg us dm) w1) 838 0 0) ∧ r_X10_back μ w1 us dm = y_paid μ w1.toNatClampNeg dm := by
  unfold f_X10_back r_X10_back
  rw [if_pos h1, if_pos h2, if_pos h1, if_pos h2]
  cases dm
  · rw [if_pos (Or.inl rfl)]
    cases us <;> exact ⟨rfl, rfl⟩
  · by_cases c1 : 12 ≤ zI μ 843 0
    · rw [if_pos (Or.inr c1)]
      cases us
      · refine ⟨?_, ?_⟩
        · refine Eq.trans (if_neg (by decide)) ?_
          refine Eq.trans (if_pos rfl) ?_
          refine Eq.trans (if_neg (by decide)) ?_
          refine Eq.trans (if_pos c1) ?_
          rfl
        · refine Eq.trans (if_neg (by decide)) ?_
          refine Eq.trans (if_pos rfl) ?_
          refine Eq.trans (if_neg (by decide)) ?_
          refine Eq.trans (if_pos c1) ?_
          rfl
      · refine ⟨?_, ?_⟩
        · refine Eq.trans (if_neg (by decide)) ?_
          refine Eq.trans (if_neg (by decide)) ?_
          refine Eq.trans (if_neg (by decide)) ?_
          refine Eq.trans (if_pos c1) ?_
          rfl
        · refine Eq.trans (if_neg (by decide)) ?_
          refine Eq.trans (if_neg (by decide)) ?_
          refine Eq.trans (if_neg (by decide)) ?_
          refine Eq.trans (if_pos c1) ?_
          rfl
    · rw [if_neg (show ¬ ((true : Bool) = false ∨ 12 ≤ zI μ 843 0) from fun z => z.elim (fun y => absurd y (by decide)) c1)]
      cases us
      · refine ⟨?_, ?_⟩
        · refine Eq.trans (if_neg (by decide)) ?_
          refine Eq.trans (if_pos rfl) ?_
          refine Eq.trans (if_neg (by decide)) ?_
          refine Eq.trans (if_neg c1) ?_
          rfl
        · refine Eq.trans (if_neg (by decide)) ?_
          refine Eq.trans (if_pos rfl) ?_
          refine Eq.trans (if_neg (by decide)) ?_
          refine Eq.trans (if_neg c1) ?_
          rfl
      · refine ⟨?_, ?_⟩
        · refine Eq.trans (if_neg (by decide)) ?_
          refine Eq.trans (if_neg (by decide)) ?_
          refine Eq.trans (if_neg (by decide)) ?_
          refine Eq.trans (if_neg c1) ?_
          rfl
        · refine Eq.trans (if_neg (by decide)) ?_
          refine Eq.trans (if_neg (by decide)) ?_
          refine Eq.trans (if_neg (by decide)) ?_
          refine Eq.trans (if_neg c1) ?_
          rfl
def g_19 (μ : zS) (c : Nat) (us dm : Bool) : zS := if dm = false ∨ 12 ≤ zI μ 843 0 then g_19b μ c us dm else g_F (g_19b μ c us dm) c
def z_19 (μ τ : zS) (dm : Bool) : zS := if dm = false ∨ 12 ≤ zI μ 843 0 then zt1 τ else zfT (zt1 τ) (zn μ 843)
theorem k_paid_eq (h : zsim σ μ τ) {c : Nat} (hc1 : c < zn μ 840) (h3 : zA μ 38 0 c = 104) (dm : Bool) : k_paid (zpI σ 512 0 (zI σ 512 0 + 1)) c dm = y_paid μ c dm := by
  obtain ⟨hn, hg, hmm, hc, he, hw, hh, hp, hr, hl, hf⟩ := id h
  obtain ⟨n1, n2, n3, n4, n5, n6, n7, n8, n9⟩ := id hn
  obtain ⟨w1, w2⟩ := (hh c hc1).1 h3
  show k_max 0 (zI σ 119 c - (5 * k_max 0 (zI σ 509 0 - zI σ 118 c) + if dm = true then 50 else 0)) = _
  rw [w1, w2, n6]
  rfl
theorem ok_19 (h : zsim σ μ τ) (hm : ymod μ τ) (w1 : Int32) (us dm : Bool) : (f_X10_back μ w1 us dm = if k_ref σ (nI 19) w1 (bI us) (bI dm) 0 = 0 then zpI (g_19 μ w1.toNatClampNeg us dm) 838 0 0 else zpI μ 838 0 (zkc [1, 3] (k_ref σ (nI 19) w1 (bI us) (bI dm) 0))) ∧ (k_ref σ (nI 19) w1 (bI us) (bI dm) 0 = 0 → ∃ c, c < zn μ 840 ∧ w1 = nI c ∧ zA μ 38 0 c = 104 ∧ r_X10_back μ w1 us dm = k_pr σ (nI 19) w1 (bI us) (bI dm) 0) := by
  obtain ⟨hn, hg, hmm, hc, he, hw, hh, hp, hr, hl, hf⟩ := id h
  obtain ⟨n1, n2, n3, n4, n5, n6, n7, n8, n9⟩ := id hn
  obtain ⟨mn, md, ms, mw, mk, mp, ml, mx, mf, mz, t0, tc, tf, tx, mb⟩ := id hm
  obtain ⟨b1, b2, b3, b4, b5⟩ := id mn
  rw [(k_pf_19b σ w1 us dm).2, (s_19_eq _ w1 us dm).2, show nI 19 = 19 from rfl, k_ref_19]
  unfold r_X8_refusalOf_19 r_X8_ofCanopyIn
  rw [zr_has_c h hm]
  cases h1 : y_has μ 840 w1
  · refine ⟨?_, fun z => by simp at z⟩
    unfold f_X10_back
    rw [h1]
    rfl
  · obtain ⟨c, hc1, rfl⟩ := yhas_lt b2 (by decide) h1
    have hb2 := b2.2
    have ec : (nI c).toNatClampNeg = c := nI_clamp (by omega)
    rw [ec, (hc c hc1).1]
    by_cases h3 : zA μ 38 0 c = 104
    · have h3' : zA μ 38 0 (nI c).toNatClampNeg = 104 := by rw [ec]; exact h3
      obtain ⟨x1, x2⟩ := fx_19 h1 h3' us dm
      rw [if_pos rfl, if_neg (not_not_intro h3), x1, x2, if_pos rfl, ec]
      refine ⟨?_, fun _ => ⟨c, hc1, rfl, h3, (k_paid_eq h hc1 h3 dm).symm⟩⟩
      unfold g_19
      by_cases c1 : dm = false ∨ 12 ≤ zI μ 843 0
      · rw [if_pos c1, if_pos c1]
      · rw [if_neg c1, if_neg c1, g_F_eq (by omega)]
    · rw [if_pos rfl, if_pos h3]
      refine ⟨?_, fun z => absurd z (by decide)⟩
      unfold f_X10_back
      rw [h1, ec, if_pos rfl, if_neg h3]
      rfl
theorem sm_19b (h : zsim σ μ τ) (hm : ymod μ τ) (hN : zn τ 512 < 512) {c : Nat} (hc1 : c < zn μ 840) (h3 : zA μ 38 0 c = 104) (us dm : Bool) : zsim (s_19b (zpI σ 512 0 (zI σ 512 0 + 1)) c us dm) (g_19b μ c us dm) (zt1 τ) ∧ ymod (g_19b μ c us dm) (zt1 τ) := by
  obtain ⟨hn, hg, hmm, hc, he, hw, hh, hp, hr, hl, hf⟩ := id h
  obtain ⟨n1, n2, n3, n4, n5, n6, n7, n8, n9⟩ := id hn
  obtain ⟨mn, md, ms, mw, mk, mp, ml, mx, mf, mz, t0, tc, tf, tx, mb⟩ := id hm
  obtain ⟨b1, b2, b3, b4, b5⟩ := id mn
  have gz : ∀ k d, d ≠ c → zA (g_19b μ c us dm) k 0 d = zA μ k 0 d := fun k d hd => by unfold g_19b; simp [zI_pI, zI_pL, zI_pA, zL_pI, zL_pL, zL_pA, zA_pI, zA_pL, zA_pA, hd]
  have gk : ∀ k, k ≠ 38 → ∀ d, zA (g_19b μ c us dm) k 0 d = zA μ k 0 d := fun k h1 d => by unfold g_19b; simp [zI_pI, zI_pL, zI_pA, zL_pI, zL_pL, zL_pA, zA_pI, zA_pL, zA_pA, h1]
  have v38 : zA (g_19b μ c us dm) 38 0 c = if us = true then 111 else 107 := by unfold g_19b; simp [zI_pI, zI_pL, zI_pA, zL_pI, zL_pL, zL_pA, zA_pI, zA_pL, zA_pA]
  have n38 : ¬ zA (g_19b μ c us dm) 38 0 c = 112 := by rw [v38]; cases us <;> decide
  have m38 : ¬ zA (g_19b μ c us dm) 38 0 c = 104 := by rw [v38]; cases us <;> decide
  refine ⟨⟨⟨n1, n2, n3, n4, n5, n6, n7, ?_, ?_⟩, hg, hmm, fun d hd => ?_, he, fun d hd => ?_, fun d hd => ?_, hp, hr, hl, hf⟩, ?_⟩
  · show zL σ 511 0 + (zI σ 119 c - k_paid (zpI σ 512 0 (zI σ 512 0 + 1)) c dm).toInt64 = zL μ 847 0 + (zA μ 53 0 c - y_paid μ c dm).toInt64
    rw [k_paid_eq h hc1 h3, n8, ((hh c hc1).1 h3).2]
  · show zI σ 512 0 + 1 = zI τ 512 0 + 1
    rw [n9]
  · have hd : d < zn μ 840 := hd
    have := hc d hd
    by_cases e : d = c
    · subst e
      rw [v38, gk 41 (by decide), gk 42 (by decide), gk 43 (by decide), gk 44 (by decide)]
      unfold s_19b zt1
      simp [zI_pI, zI_pL, zI_pA, zL_pI, zL_pL, zL_pA, zA_pI, zA_pL, zA_pA, this]
    · rw [gz 38 d e, gz 41 d e, gz 42 d e, gz 43 d e, gz 44 d e]
      unfold s_19b zt1
      simpa [zI_pI, zI_pL, zI_pA, zL_pI, zL_pL, zL_pA, zA_pI, zA_pL, zA_pA, e] using this
  · have hd : d < zn μ 840 := hd
    have := hw d hd
    by_cases e : d = c
    · subst e
      have w := this.2 (by rw [h3]; decide)
      exact ⟨fun z => absurd z n38, fun _ => w⟩
    · rw [gz 38 d e]
      exact this
  · have hd : d < zn μ 840 := hd
    have := hh d hd
    by_cases e : d = c
    · subst e
      refine ⟨fun z => absurd z m38, fun _ => ?_⟩
      unfold s_19b
      simp [zI_pI, zI_pL, zI_pA, zL_pI, zL_pL, zL_pA, zA_pI, zA_pL, zA_pA]
    · rw [gz 38 d e, gk 52 (by decide), gk 53 (by decide)]
      unfold s_19b
      simpa [zI_pI, zI_pL, zI_pA, zL_pI, zL_pL, zL_pA, zA_pI, zA_pL, zA_pA, e] using this
  · refine ymod_tick hm hN mn md (ms_st (c := c) ms rfl (fun d hd => gz 38 d hd) (by rw [v38]; cases us <;> simp)) (fun d hd z => ?_) (mk_st (c := c) mk rfl rfl (fun i => rfl) (fun d hd => gz 38 d hd) (fun z => by unfold y_ready; rw [h3]; rfl)) mp (ml_st (c := c) ml (by rw [h3]; decide) rfl rfl (fun k hk i => by rcases hk with rfl | rfl | rfl | rfl | rfl <;> rfl) (fun d hd => gz 38 d hd)) (mx_st mx rfl (fun k hk i => by rcases hk with rfl | rfl | rfl | rfl | rfl <;> rfl)) mf (mz_st (c := c) hc1 mz rfl rfl rfl (fun k hk d hd => gz k d hd) (fun k hk d hd => by rcases hk with rfl | rfl <;> rfl) (fun d hd => rfl)) rfl rfl (fun k hk c => by rcases hk with rfl | rfl | rfl | rfl | rfl | rfl | rfl | rfl | rfl <;> rfl) rfl (mb_st (c := c) hc1 mb rfl rfl (fun d hd => by unfold y_wk; rw [gz 38 d hd, gz 40 d hd]) (by unfold y_wk; rw [if_neg n38]; exact Nat.zero_le _))
    have hd : d < zn μ 840 := hd
    by_cases e : d = c
    · subst e; exact absurd z n38
    · rw [gz 38 d e] at z
      exact mw d hd z
theorem sm_19 (h : zsim σ μ τ) (hm : ymod μ τ) (hN : zn τ 512 < 512) {w1 : Int32} {us dm : Bool} (h0 : k_ref σ (nI 19) w1 (bI us) (bI dm) 0 = 0) : zsim (k_pf σ (nI 19) w1 (bI us) (bI dm) 0) (g_19 μ w1.toNatClampNeg us dm) (z_19 μ τ dm) ∧ ymod (g_19 μ w1.toNatClampNeg us dm) (z_19 μ τ dm) := by
  obtain ⟨c, hc1, rfl, h3, -⟩ := (ok_19 h hm w1 us dm).2 h0
  obtain ⟨hn, hg, hmm, hc, he, hw, hh, hp, hr, hl, hf⟩ := id h
  obtain ⟨n1, n2, n3, n4, n5, n6, n7, n8, n9⟩ := id hn
  obtain ⟨mn, md, ms, mw, mk, mp, ml, mx, mf, mz, t0, tc, tf, tx, mb⟩ := id hm
  obtain ⟨b1, b2, b3, b4, b5⟩ := id mn
  have hb2 := b2.2
  have eN := zt1_n hm
  have ha2 := t0.2.2.2
  rw [(k_pf_19b σ (nI c) us dm).1, (s_19_eq _ (nI c) us dm).1]
  unfold g_19 z_19
  rw [nI_clamp (by omega)]
  obtain ⟨q1, q2⟩ := sm_19b h hm hN hc1 h3 us dm
  cases dm
  · rw [if_neg (by decide), if_pos (Or.inl rfl), if_pos (Or.inl rfl)]
    exact ⟨q1, q2⟩
  · rw [if_pos rfl]
    unfold f_X5_noteFindingIfRoom
    have e508 : zI (s_19b (zpI σ 512 0 (zI σ 512 0 + 1)) c us true) 508 0 = zI μ 843 0 := n5
    rw [e508]
    by_cases c1 : 12 ≤ zI μ 843 0
    · rw [if_pos c1, if_pos (Or.inr c1), if_pos (Or.inr c1)]
      exact ⟨q1, q2⟩
    · have c2 : ¬ ((true : Bool) = false ∨ 12 ≤ zI μ 843 0) := fun z => z.elim (fun y => absurd y (by decide)) c1
      rw [if_neg c1, if_neg c2, if_neg c2]
      have hlt : zn μ 843 < 12 := zr_cap2 b5 (by decide) (fun z => c1 (show (12 : Int32) ≤ zI μ 843 0 from (zr_cap (N := 12) b5 (by decide)).mpr z))
      exact sm_F q1 q2 (by omega) (by show zn μ 846 + 1 ≤ _; omega) hc1 hlt
end ZAJ
