section ZPN
variable {σ μ τ δ ν : zS} {R C L K b : Nat} {V : Nat → Int64}
/-! THE ACTS THAT MAKE: riggers, canopies, loads -/
theorem pf_0 (h : zP R C L K b V σ δ μ τ) (hK : K < 512) (hR : R < 8) {x y : Nat} (hx : x ≤ 63) (hy : y ≤ 9999) : zans (k_ref σ (nI 0) (nI x) (nI y) 0 0) (k_pr σ (nI 0) (nI x) (nI y) 0 0) = nI R ∧ ∃ μ' τ', zP (R + 1) C L (K + 1) b V (k_nS σ 0 (nI x) (nI y) 0 0) (k_nD σ δ 0 (nI x) (nI y) 0 0) μ' τ' := by
  obtain ⟨hs, hm, hh, hk, hp⟩ := id h
  obtain ⟨q1, q2, q3, q4, q5, q6⟩ := h.nb
  have e505 : zI σ 505 0 = nI R := hs.1.1.trans q4
  have h0 : k_ref σ (nI 0) (nI x) (nI y) 0 0 = 0 := by
    rw [show nI 0 = 0 from rfl, k_ref_0]
    unfold r_X8_refusalOf_0 r_X8_ofAddRigger
    have l1 : k_lic (nI x) (nI y) = true := by
      simp only [k_lic, k_in, Bool.and_eq_true, Bool.not_eq_true', decide_eq_false_iff_not]
      exact ⟨⟨nI_pos (by omega), fun z => by have := (nI_ltI (a := 63) (b := x) (by decide) (by omega)).mp z; omega⟩, nI_pos (by omega), fun z => by have := (nI_ltI (a := 9999) (b := y) (by decide) (by omega)).mp z; omega⟩
    rw [if_pos l1, e505, if_neg (fun z => by have := (nI_leI (a := 8) (b := R) (by decide) (by omega)).mp z; omega)]
  have hp1 := pm_up hp (Nat.le_succ K) (Nat.le_refl b)
  obtain ⟨⟨nR, nC, nL⟩, pk, pd, pc, pq, pb, ph, pv, px, pf⟩ := hp1
  have up := zn_up hm.1.1 (by decide) (ν := g_0 μ (nI x) (nI y)) (g := 839) rfl
  obtain ⟨τ', hP⟩ := pa_gen h hK (za_0 hm (by omega) (nI x) (nI y)) h0 (by rw [fe_0 hs hm, if_pos h0]) (ν := g_0 μ (nI x) (nI y)) (R' := R + 1) (C' := C) (L' := L) (b' := b) (V' := V) ⟨⟨by rw [up.2, nR], nC, nL⟩, pk, pd, pc, pq, pb, ph, pv, px, pf⟩
  refine ⟨?_, _, τ', hP⟩
  rw [zans_0 h0, show nI 0 = 0 from rfl, k_pr_0]
  show zI σ 505 0 + 1 - 1 = nI R
  rw [e505, Int32.add_sub_cancel]
theorem pf_8 (h : zP R C L K b V σ δ μ τ) (hK : K < 512) (hL : L < 30) : zans (k_ref σ (nI 8) 0 0 0 0) (k_pr σ (nI 8) 0 0 0 0) = nI L ∧ ∃ μ' τ', zP R C (L + 1) (K + 1) b V (k_nS σ 8 0 0 0 0) (k_nD σ δ 8 0 0 0 0) μ' τ' := by
  obtain ⟨hs, hm, hh, hk, hp⟩ := id h
  obtain ⟨q1, q2, q3, q4, q5, q6⟩ := h.nb
  have e507 : zI σ 507 0 = nI L := hs.1.2.2.2.1.trans q6
  have h0 : k_ref σ (nI 8) 0 0 0 0 = 0 := by
    rw [show nI 8 = 8 from rfl, k_ref_8]
    unfold r_X8_refusalOf_8
    rw [e507, if_neg (fun z => by have := (nI_leI (a := 30) (b := L) (by decide) (by omega)).mp z; omega)]
  have hp1 := pm_up hp (Nat.le_succ K) (Nat.le_refl b)
  obtain ⟨⟨nR, nC, nL⟩, pk, pd, pc, pq, pb, ph, pv, px, pf⟩ := hp1
  have up := zn_up hm.1.2.2.2.1 (by decide) (ν := g_8 μ) (g := 842) rfl
  obtain ⟨τ', hP⟩ := pa_gen h hK (za_8 hm (by omega)) h0 (by rw [fe_8 hs hm, if_pos h0]) (ν := g_8 μ) (R' := R) (C' := C) (L' := L + 1) (b' := b) (V' := V) ⟨⟨nR, nC, by rw [up.2, nL]⟩, pk, pd, pc, pq, pb, ph, pv, px, pf⟩
  refine ⟨?_, _, τ', hP⟩
  rw [zans_0 h0, show nI 8 = 8 from rfl, k_pr_8]
  show zI σ 507 0 + 1 - 1 = nI L
  rw [e507, Int32.add_sub_cancel]
set_option maxHeartbeats 1000000 in
theorem pf_2 (h : zP R C L K b V σ δ μ τ) (hK : K < 512) (hC : C < 24) {x y z : Nat} (hx : x ≤ 9) (hy : y ≤ 9) (hz0 : 1 ≤ z) (hz : z ≤ 9999) {w : Int32} (hw : w = if C % 2 = 0 then 109 else 114) : zans (k_ref σ (nI 2) w (nI x) (nI y) (nI z)) (k_pr σ (nI 2) w (nI x) (nI y) (nI z)) = nI C ∧ ∃ μ' τ', zP R (C + 1) L (K + 1) b V (k_nS σ 2 w (nI x) (nI y) (nI z)) (k_nD σ δ 2 w (nI x) (nI y) (nI z)) μ' τ' := by
  obtain ⟨hs, hm, hh, hk, hp⟩ := id h
  obtain ⟨q1, q2, q3, q4, q5, q6⟩ := h.nb
  have e506 : zI σ 506 0 = nI C := hs.1.2.1.trans q5
  have i1 : k_in (nI x) 0 9 = true := kin_iff.mpr ⟨nI_pos' (by omega), (nI_leI (b := 9) (by omega) (by decide)).mpr hx⟩
  have i2 : k_in (nI y) 0 9 = true := kin_iff.mpr ⟨nI_pos' (by omega), (nI_leI (b := 9) (by omega) (by decide)).mpr hy⟩
  have i3 : k_in (nI z) 1 9999 = true := kin_iff.mpr ⟨(nI_leI (a := 1) (by decide) (by omega)).mpr hz0, (nI_leI (b := 9999) (by omega) (by decide)).mpr hz⟩
  have i4 : ¬ (24 : Int32) ≤ nI C := fun q => by have := (nI_leI (a := 24) (b := C) (by decide) (by omega)).mp q; omega
  have h0 : k_ref σ (nI 2) w (nI x) (nI y) (nI z) = 0 := by
    rw [show nI 2 = 2 from rfl, k_ref_2]
    unfold r_X8_refusalOf_2 r_X8_ofAddCanopy
    have tf : ¬ (true = false) := by decide
    rw [i1, i2, e506]
    rcases (show w = 109 ∨ w = 114 by rw [hw]; split; exact Or.inl rfl; exact Or.inr rfl) with e | e
    · rw [if_pos e, if_neg tf, if_neg tf, if_pos i3, if_neg i4]
    · rw [if_neg (show ¬ w = 109 by rw [e]; decide), if_pos e, if_neg tf, if_neg tf, if_pos i3, if_neg i4]
  have hp1 := pm_up hp (Nat.le_succ K) (Nat.le_refl b)
  obtain ⟨⟨nR, nC, nL⟩, pk, pd, pc, pq, pb, ph, pv, px, pf⟩ := hp1
  have up := zn_up hm.1.2.1 (by decide) (ν := g_2 μ w (nI x) (nI y) (nI z)) (g := 840) rfl
  have mz := hm.2.2.2.2.2.2.2.2.2.1.1
  have g0 : ∀ k d, d ≠ zn μ 840 → zA (g_2 μ w (nI x) (nI y) (nI z)) k 0 d = zA μ k 0 d := fun k d hd => by unfold g_2; simp [zI_pI, zI_pL, zI_pA, zL_pI, zL_pL, zL_pA, zA_pI, zA_pL, zA_pA, hd]
  have gk : ∀ k, k ≠ 33 → k ≠ 34 → k ≠ 35 → k ≠ 36 → k ≠ 37 → k ≠ 38 → k ≠ 41 → k ≠ 45 → k ≠ 46 → k ≠ 47 → ∀ d, zA (g_2 μ w (nI x) (nI y) (nI z)) k 0 d = zA μ k 0 d := fun k a1 a2 a3 a4 a5 a6 a7 a8 a9 a10 d => by unfold g_2; simp [zI_pI, zI_pL, zI_pA, zL_pI, zL_pL, zL_pA, zA_pI, zA_pL, zA_pA, a1, a2, a3, a4, a5, a6, a7, a8, a9, a10]
  have v38 : zA (g_2 μ w (nI x) (nI y) (nI z)) 38 0 (zn μ 840) = 111 := by unfold g_2; simp [zI_pI, zI_pL, zI_pA, zL_pI, zL_pL, zL_pA, zA_pI, zA_pL, zA_pA]
  have v33 : zA (g_2 μ w (nI x) (nI y) (nI z)) 33 0 (zn μ 840) = w := by unfold g_2; simp [zI_pI, zI_pL, zI_pA, zL_pI, zL_pL, zL_pA, zA_pI, zA_pL, zA_pA]
  have lt : ∀ {d : Nat}, d < zn (g_2 μ w (nI x) (nI y) (nI z)) 840 → d ≠ zn μ 840 → d < zn μ 840 := fun {d} h1 h2 => by rw [up.2] at h1; omega
  obtain ⟨τ', hP⟩ := pa_gen h hK (za_2 hm (by omega) w (nI x) (nI y) (nI z)) h0 (by rw [(ok_2 hs hm _ _ _ _).1, if_pos h0]) (ν := g_2 μ w (nI x) (nI y) (nI z)) (R' := R) (C' := C + 1) (L' := L) (b' := b) (V' := V) ⟨⟨nR, by rw [up.2, nC], nL⟩, fun d hd => by
      by_cases e : d = zn μ 840
      · rw [e, v33, hw, nC]
      · rw [g0 33 d e]; exact pk d (lt hd e), pd, fun d hd => by
      by_cases e : d = zn μ 840
      · obtain ⟨-, z42, z43, z44, -⟩ := mz d (by omega) (by omega)
        rw [gk 42 (by decide) (by decide) (by decide) (by decide) (by decide) (by decide) (by decide) (by decide) (by decide) (by decide), gk 43 (by decide) (by decide) (by decide) (by decide) (by decide) (by decide) (by decide) (by decide) (by decide) (by decide), gk 44 (by decide) (by decide) (by decide) (by decide) (by decide) (by decide) (by decide) (by decide) (by decide) (by decide), z42, z43, z44]
        exact ⟨⟨0, Nat.zero_le _, rfl⟩, ⟨0, Nat.zero_le _, rfl⟩, 0, Nat.zero_le _, rfl⟩
      · rw [g0 42 d e, g0 43 d e, g0 44 d e]; exact pc d (lt hd e), fun d hd hr => by
      by_cases e : d = zn μ 840
      · rw [y_rd, e, v38] at hr; exact absurd hr (by decide)
      · rw [y_rd, g0 38 d e] at hr; exact pq d (lt hd e) (y_rd.mpr hr), pb, fun d e hd he s1 s2 s3 => by
      by_cases e1 : d = zn μ 840
      · rw [e1, v38] at s1; exact absurd s1 (by decide)
      · by_cases e2 : e = zn μ 840
        · rw [e2, v38] at s2; exact absurd s2 (by decide)
        · rw [g0 38 d e1] at s1
          rw [g0 38 e e2] at s2
          rw [g0 39 d e1, g0 39 e e2] at s3
          exact ph d e (lt hd e1) (lt he e2) s1 s2 s3, fun d hd s1 => by
      by_cases e1 : d = zn μ 840
      · rw [e1, v38] at s1; exact absurd s1 (by decide)
      · rw [g0 38 d e1] at s1
        rw [g0 53 d e1, g0 52 d e1]
        exact pv d (lt hd e1) s1, px, pf⟩
  refine ⟨?_, _, τ', hP⟩
  rw [zans_0 h0, show nI 2 = 2 from rfl, k_pr_2]
  show zI σ 506 0 + 1 - 1 = nI C
  rw [e506, Int32.add_sub_cancel]
/-! 4: goOn -/
theorem pf_4 (h : zP R C L K b V σ δ μ τ) (hK : K < 512) (hb : 36 * b + 36 ≤ 9999) {x : Nat} (hx0 : 1 ≤ x) (hx : x ≤ 36) : 0 < zans (k_ref σ (nI 4) (nI x) 0 0 0) (k_pr σ (nI 4) (nI x) 0 0 0) ∧ ∃ μ' τ', zP R C L (K + 1) (b + 1) V (k_nS σ 4 (nI x) 0 0 0) (k_nD σ δ 4 (nI x) 0 0 0) μ' τ' ∧ RD 0 μ μ' := by
  obtain ⟨hs, hm, hh, hk, hp⟩ := id h
  have hp1 := pm_up hp (Nat.le_succ K) (Nat.le_refl b)
  obtain ⟨⟨nR, nC, nL⟩, pk, ⟨d, hd, ed⟩, pc, pq, pb, ph, pv, px, pf⟩ := hp1
  have e509 : zI σ 509 0 = nI d := hs.1.2.2.2.2.2.1.trans ed
  have h0 : k_ref σ (nI 4) (nI x) 0 0 0 = 0 := by
    rw [show nI 4 = 4 from rfl, k_ref_4]
    unfold r_X8_refusalOf_4 r_X8_ofGoOn
    have i1 : k_in (nI x) 1 999 = true := kin_iff.mpr ⟨(nI_leI (a := 1) (by decide) (by omega)).mpr hx0, (nI_leI (b := 999) (by omega) (by decide)).mpr (by omega)⟩
    rw [if_pos i1, e509, nI_add, if_neg (fun z => by have := (nI_ltI (a := 9999) (b := d + x) (by decide) (by omega)).mp z; omega)]
  obtain ⟨τ', hP⟩ := pa_gen h hK (za_4 hm (by omega) (nI x)) h0 (by rw [fe_4 hs, if_pos h0]) (ν := g_4 μ (nI x)) (R' := R) (C' := C) (L' := L) (b' := b + 1) (V' := V) ⟨⟨nR, nC, nL⟩, pk, ⟨d + x, by omega, by show zI μ 844 0 + nI x = _; rw [ed, nI_add]⟩, pc, pq, fun i hi => by
      obtain ⟨a1, a2, a3⟩ := pb i hi
      refine ⟨a1, Int32.le_trans a2 ?_, a3⟩
      show zI μ 844 0 ≤ zI μ 844 0 + nI x
      rw [ed, nI_add]
      exact (nI_leI (by omega) (by omega)).mpr (by omega), ph, pv, px, pf⟩
  refine ⟨?_, _, τ', hP, RD_rf⟩
  rw [zans_0 h0, show nI 4 = 4 from rfl, k_pr_4]
  show 0 < zI σ 509 0 + nI x
  rw [e509, nI_add]
  exact nI_gt0 (by omega) (by omega)
end ZPN
