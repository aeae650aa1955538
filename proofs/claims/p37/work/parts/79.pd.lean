section ZPR
variable {σ μ τ δ ν : zS} {R C L K b : Nat} {V : Nat → Int64}
/-! 12: find -/
theorem zct_one {p : Nat → Bool} {c : Nat} (hc : p c = true) (ho : ∀ i, i ≠ c → p i = false) : ∀ {n : Nat}, c < n → zct p n = 1
  | 0, h => absurd h (Nat.not_lt_zero _)
  | n + 1, h => by
    rw [zct]
    rcases Nat.lt_or_ge c n with q | q
    · rw [zct_one hc ho q, ho n (by omega)]; rfl
    · have e : n = c := by omega
      rw [e, hc, zct_0 (fun i hi => ho i (by omega))]; rfl
theorem zct_imp {p q : Nat → Bool} : ∀ {n : Nat}, (∀ i, i < n → p i = true → q i = true) → zct p n ≤ zct q n
  | 0, _ => Nat.le_refl _
  | n + 1, h => by
    have ih := zct_imp (n := n) (fun i hi => h i (by omega))
    rw [zct, zct]
    cases hp : p n
    · rw [if_neg (by decide)]; split <;> omega
    · rw [if_pos rfl, if_pos (h n (by omega) hp)]; omega
/-- behind a new finding -/
theorem gF_pm (hm : ymod μ τ) (hp : pm R C L K b V μ) (h843 : zn μ 843 < 12) (c : Nat) : pm R C L K b V (g_F μ c) ∧ RD 0 μ (g_F μ c) := by
  obtain ⟨pn, pk, pd, pc, pq, pb, ph, pv, px, pf⟩ := hp
  have up := zn_up hm.1.2.2.2.2 (by decide) (ν := g_F μ c) (g := 843) rfl
  have g67 : ∀ f, zA (g_F μ c) 67 0 f = if f = zn μ 843 then 45 else zA μ 67 0 f := fun f => by unfold g_F; simp [zI_pI, zI_pL, zI_pA, zL_pI, zL_pL, zL_pA, zA_pI, zA_pL, zA_pA]
  refine ⟨⟨pn, pk, pd, pc, pq, pb, ph, pv, px, fun f hf => ?_⟩, RD_rf⟩
  rw [up.2] at hf
  rw [g67]
  by_cases e : f = zn μ 843
  · rw [if_pos e]; exact Or.inl rfl
  · rw [if_neg e]; exact pf f (by omega)
set_option maxHeartbeats 1000000 in
theorem pf_12 (h : zP R C L K b V σ δ μ τ) (hK : K < 512) {c : Nat} (hc : c < C) : ∃ μ' τ', zP R C L (K + 1) b V (k_nS σ 12 (nI c) 0 0 0) (k_nD σ δ 12 (nI c) 0 0 0) μ' τ' ∧ RD 0 μ μ' ∧ (zans (k_ref σ (nI 12) (nI c) 0 0 0) (k_pr σ (nI 12) (nI c) 0 0 0) = -79 ∨ ∃ f, zans (k_ref σ (nI 12) (nI c) 0 0 0) (k_pr σ (nI 12) (nI c) 0 0 0) = nI f ∧ f < zn μ' 843 ∧ f < 12 ∧ y_down μ' c = true ∧ y_cntG μ' f = 1) := by
  obtain ⟨hs, hm, hh, hk, hp⟩ := id h
  obtain ⟨q1, q2, q3, q4, q5, q6⟩ := h.nb
  have nC := pm_nc h
  have ec : (nI c).toNatClampNeg = c := nI_clamp (by omega)
  by_cases h0 : k_ref σ (nI 12) (nI c) 0 0 0 = 0
  · obtain ⟨c1, hc1, e1, hf12, -⟩ := (ok_12 hs hm _).2 h0
    obtain ⟨gp, gr⟩ := gF_pm hm (pm_up hp (Nat.le_succ K) (Nat.le_refl b)) hf12 c
    obtain ⟨τ', hP⟩ := pa_gen h hK (za_12 hm (by omega) (nI c)) h0 (by rw [(ok_12 hs hm _).1, if_pos h0, ec]) (ν := g_F μ c) (R' := R) (C' := C) (L' := L) (b' := b) (V' := V) gp
    refine ⟨_, τ', hP, gr, Or.inr ⟨zn μ 843, ?_, ?_, hf12, ?_⟩⟩
    · rw [zans_0 h0, show nI 12 = 12 from rfl, k_pr_12]
      show zI σ 508 0 + 1 - 1 = _
      rw [Int32.add_sub_cancel, hs.1.2.2.2.2.1, hm.1.2.2.2.2.1]
    · have up := zn_up hm.1.2.2.2.2 (by decide) (ν := g_F μ c) (g := 843) rfl
      show zn μ 843 < zn (g_F μ c) 843
      omega
    · have up := zn_up hm.1.2.2.2.2 (by decide) (ν := g_F μ c) (g := 843) rfl
      generalize hnf : zn μ 843 = nf at hf12 up
      have v63 : zA (g_F μ c) 63 0 nf = nI c := by subst hnf; unfold g_F; simp [zI_pI, zI_pL, zI_pA, zL_pI, zL_pL, zL_pA, zA_pI, zA_pL, zA_pA]
      have v65 : zA (g_F μ c) 65 0 nf = zI μ 846 0 := by subst hnf; unfold g_F; simp [zI_pI, zI_pL, zI_pA, zL_pI, zL_pL, zL_pA, zA_pI, zA_pL, zA_pA]
      have v66 : zA (g_F μ c) 66 0 nf = 0 := by subst hnf; unfold g_F; simp [zI_pI, zI_pL, zI_pA, zL_pI, zL_pL, zL_pA, zA_pI, zA_pL, zA_pA]
      have v67 : zA (g_F μ c) 67 0 nf = 45 := by subst hnf; unfold g_F; simp [zI_pI, zI_pL, zI_pA, zL_pI, zL_pL, zL_pA, zA_pI, zA_pL, zA_pA]
      have v68 : zA (g_F μ c) 68 0 nf = 0 := (show zA (g_F μ c) 68 0 nf = zA μ 68 0 nf from rfl).trans (hm.2.2.2.2.2.2.2.2.2.1.2.2 nf (by omega) hf12)
      have rc : y_reach (g_F μ c) nf c = true := by
        unfold y_reach
        rw [v68, v63]
        simp
      have fr : y_free (g_F μ c) nf c = false := by
        have d1 := (hm.2.2.2.2.2.2.2.2.2.2.2.1 c (by omega)).2.2.2.2.2.2.1
        have e846 := hm.2.2.2.2.2.2.2.2.2.2.1.2.1
        have n846 : zn μ 846 ≤ 1024 := e846.2
        have x1 : ¬ zI μ 846 0 < zA μ 46 0 c := by
          rw [Int32.lt_iff_toInt_lt, e846.1, nI_toInt (by omega)]
          omega
        unfold y_free
        rw [v65, show zA (g_F μ c) 46 0 c = zA μ 46 0 c from rfl, decide_eq_false x1]
        simp
      have no : ∀ u, u ≠ c → u < 24 → y_reach (g_F μ c) nf u = false := fun u hu hu24 => by
        have x1 : ¬ nI c = nI u := fun z => hu (nI_inj' (by omega) (by omega) z).symm
        unfold y_reach
        rw [v68, v63, v66, v67, decide_eq_false x1]
        simp
      refine ⟨?_, ?_⟩
      · show y_down (g_F μ c) c = true
        exact zany_iff.mpr ⟨nf, by omega, by rw [rc, fr]; rfl⟩
      · show y_cntG (g_F μ c) nf = 1
        unfold y_cntG
        rw [show zn (g_F μ c) 840 = C from nC]
        have e1 : zct (fun u => y_reach (g_F μ c) nf u && !y_free (g_F μ c) nf u) C = zct (fun u => decide (u = c)) C := zct_congr (fun u hu => by
          by_cases e : u = c
          · rw [e, rc, fr]; simp
          · rw [no u e (by omega)]; simp [e])
        rw [e1]
        exact zct_one (p := fun u => decide (u = c)) (by simp) (fun i hi => by simp [hi]) hc
  · refine ⟨μ, τ, pa_no h h0, RD_rf, ?_⟩
    rcases zr_12 σ (nI c) 0 0 0 with z | z | z
    · exact absurd z h0
    · exfalso
      revert z
      rw [show nI 12 = 12 from rfl, k_ref_12]
      unfold r_X8_refusalOf_12 r_X8_ofFind
      rw [if_pos (has_c h hc)]
      split <;> decide
    · exact Or.inl (zans_4 z)
/-! 13: widen -/
theorem lev_up : ∀ v, v ≤ 4 → ∀ w : Int32, (w = 0 ∨ w = 1 ∨ w = 2 ∨ w = 3) → decide (w < nI v) = true → decide (w < nI v + 1) = true := by
  intro v hv w hw
  rcases (show v = 0 ∨ v = 1 ∨ v = 2 ∨ v = 3 ∨ v = 4 by omega) with rfl | rfl | rfl | rfl | rfl <;> rcases hw with rfl | rfl | rfl | rfl <;> decide
set_option maxHeartbeats 1000000 in
theorem pf_13 (h : zP R C L K b V σ δ μ τ) (hK : K < 512) {f : Nat} (hf : f < 1000) : ∃ μ' τ', zP R C L (K + 1) b V (k_nS σ 13 (nI f) 0 0 0) (k_nD σ δ 13 (nI f) 0 0 0) μ' τ' ∧ RD 0 μ μ' ∧ (zans (k_ref σ (nI 13) (nI f) 0 0 0) (k_pr σ (nI 13) (nI f) 0 0 0) < 0 ∨ (¬ zans (k_ref σ (nI 13) (nI f) 0 0 0) (k_pr σ (nI 13) (nI f) 0 0 0) < 0 ∧ f < zn μ 843 ∧ f < zn μ' 843 ∧ y_cntG μ f ≤ y_cntG μ' f)) := by
  obtain ⟨hs, hm, hh, hk, hp⟩ := id h
  have ef : (nI f).toNatClampNeg = f := nI_clamp (by omega)
  by_cases h0 : k_ref σ (nI 13) (nI f) 0 0 0 = 0
  · obtain ⟨f1, v, hf1, e1, ev, hv, -⟩ := (ok_13 hs hm _).2 h0
    have e1' : f1 = f := by have := hm.1.2.2.2.2.2; exact (nI_inj' (by omega) (by omega) e1).symm
    rw [e1'] at hf1 ev
    have eg : g_13 μ (nI f) = zpA μ 66 0 f (nI v + 1) := by unfold g_13; rw [ef, ev]
    obtain ⟨pn, pk, pd, pc, pq, pb, ph, pv, px, pf⟩ := pm_up hp (Nat.le_succ K) (Nat.le_refl b)
    obtain ⟨τ', hP⟩ := pa_gen h hK (za_13 hm (by omega) (nI f)) h0 (by rw [(ok_13 hs hm _).1, if_pos h0, eg]) (ν := zpA μ 66 0 f (nI v + 1)) (R' := R) (C' := C) (L' := L) (b' := b) (V' := V) ⟨pn, pk, pd, pc, pq, pb, ph, pv, px, pf⟩
    refine ⟨_, τ', hP, RD_rf, Or.inr ⟨?_, hf1, hf1, ?_⟩⟩
    · rw [zans_0 h0, show nI 13 = 13 from rfl, k_pr_13]
      show ¬ r_X5_raiseLevel (zpI σ 512 0 (zI σ 512 0 + 1)) (nI f).toNatClampNeg < 0
      unfold r_X5_raiseLevel
      rw [ef, zI_pI, if_pos ⟨rfl, rfl⟩, show zI (zpI σ 512 0 (zI σ 512 0 + 1)) 302 f = zI σ 302 f from rfl, (hs.2.2.2.2.2.2.2.2.2.2 f hf1).2.2.1, ev, nI_1]
      exact nI_pos (by omega)
    · show y_cntG μ f ≤ y_cntG (zpA μ 66 0 f (nI v + 1)) f
      refine zct_imp (fun u hu hr => ?_)
      rw [Bool.and_eq_true] at hr ⊢
      refine ⟨?_, hr.2⟩
      have hr1 := hr.1
      have v66 : zA (zpA μ 66 0 f (nI v + 1)) 66 0 f = nI v + 1 := by simp [zI_pI, zI_pL, zI_pA, zL_pI, zL_pL, zL_pA, zA_pI, zA_pL, zA_pA]
      unfold y_reach at hr1 ⊢
      rw [v66]
      rw [ev] at hr1
      rw [Bool.and_eq_true, Bool.or_eq_true] at hr1 ⊢
      refine ⟨hr1.1, ?_⟩
      rcases hr1.2 with z | z
      · exact Or.inl z
      · refine Or.inr ?_
        by_cases c45 : zA μ 67 0 f = 45
        · rw [if_pos c45] at z
          rw [if_pos (show zA (zpA μ 66 0 f (nI v + 1)) 67 0 f = 45 from c45)]
          simp only [Bool.or_eq_true, Bool.and_eq_true] at z ⊢
          have L := lev_up v (by omega)
          rcases z with ((⟨z1, z2⟩ | ⟨z1, z2⟩) | ⟨z1, z2⟩) | ⟨z1, z2⟩
          · exact Or.inl (Or.inl (Or.inl ⟨L 0 (Or.inl rfl) z1, z2⟩))
          · exact Or.inl (Or.inl (Or.inr ⟨L 1 (Or.inr (Or.inl rfl)) z1, z2⟩))
          · exact Or.inl (Or.inr ⟨L 2 (Or.inr (Or.inr (Or.inl rfl))) z1, z2⟩)
          · exact Or.inr ⟨L 3 (Or.inr (Or.inr (Or.inr rfl))) z1, z2⟩
        · rw [if_neg c45] at z
          rw [if_neg (show ¬ zA (zpA μ 66 0 f (nI v + 1)) 67 0 f = 45 from c45)]
          exact z
  · exact ⟨μ, τ, pa_no h h0, RD_rf, Or.inl (zans_lt h0)⟩
/-! 14: tellCause -/
theorem ca_14 {w1 w2 : Int32} (h0 : k_ref σ (nI 14) w1 w2 0 0 = 0) : w2 = 108 ∨ w2 = 104 ∨ w2 = 114 ∨ w2 = 99 ∨ w2 = 115 := by
  rw [show nI 14 = 14 from rfl, k_ref_14] at h0
  unfold r_X8_refusalOf_14 r_X8_ofTellCause at h0
  by_cases c1 : w2 = 108
  · exact Or.inl c1
  by_cases c2 : w2 = 104
  · exact Or.inr (Or.inl c2)
  by_cases c3 : w2 = 114
  · exact Or.inr (Or.inr (Or.inl c3))
  by_cases c4 : w2 = 99
  · exact Or.inr (Or.inr (Or.inr (Or.inl c4)))
  by_cases c5 : w2 = 115
  · exact Or.inr (Or.inr (Or.inr (Or.inr c5)))
  exfalso
  rw [if_neg c2, if_pos c3, if_neg c1, if_neg c4, if_neg c5] at h0
  revert h0
  split <;> decide
theorem ch_nz {x : Int32} (h : x = 45 ∨ x = 108 ∨ x = 104 ∨ x = 114 ∨ x = 99 ∨ x = 115) : ¬ (x.toUInt32 % 65536).toInt32 = 0 := by
  rcases h with rfl | rfl | rfl | rfl | rfl | rfl <;> decide
set_option maxHeartbeats 1000000 in
theorem pf_14 (h : zP R C L K b V σ δ μ τ) (hK : K < 512) {f : Nat} (hf : f < 1000) (w2 : Int32) : ∃ μ' τ', zP R C L (K + 1) b V (k_nS σ 14 (nI f) w2 0 0) (k_nD σ δ 14 (nI f) w2 0 0) μ' τ' ∧ RD 0 μ μ' ∧ ¬ zans (k_ref σ (nI 14) (nI f) w2 0 0) ((k_pr σ (nI 14) (nI f) w2 0 0).toUInt32 % 65536).toInt32 = 0 := by
  obtain ⟨hs, hm, hh, hk, hp⟩ := id h
  have ef : (nI f).toNatClampNeg = f := nI_clamp (by omega)
  by_cases h0 : k_ref σ (nI 14) (nI f) w2 0 0 = 0
  · obtain ⟨f1, hf1, e1, -, -⟩ := (ok_14 hs hm _ _).2 h0
    have e1' : f1 = f := by have := hm.1.2.2.2.2.2; exact (nI_inj' (by omega) (by omega) e1).symm
    rw [e1'] at hf1
    have eg : g_14 μ (nI f) w2 = zpA μ 67 0 f w2 := by unfold g_14; rw [ef]
    have pf0 := hp.2.2.2.2.2.2.2.2.2
    obtain ⟨pn, pk, pd, pc, pq, pb, ph, pv, px, pf⟩ := pm_up hp (Nat.le_succ K) (Nat.le_refl b)
    obtain ⟨τ', hP⟩ := pa_gen h hK (za_14 hm (by omega) (nI f) w2) h0 (by rw [(ok_14 hs hm _ _).1, if_pos h0, eg]) (ν := zpA μ 67 0 f w2) (R' := R) (C' := C) (L' := L) (b' := b) (V' := V) ⟨pn, pk, pd, pc, pq, pb, ph, pv, px, fun d hd => by
        have e67 : zA (zpA μ 67 0 f w2) 67 0 d = if d = f then w2 else zA μ 67 0 d := by simp [zI_pI, zI_pL, zI_pA, zL_pI, zL_pL, zL_pA, zA_pI, zA_pL, zA_pA]
        rw [e67]
        by_cases e : d = f
        · rw [if_pos e]; exact Or.inr (ca_14 h0)
        · rw [if_neg e]; exact pf d hd⟩
    refine ⟨_, τ', hP, RD_rf, ?_⟩
    have e2 : k_pr σ (nI 14) (nI f) w2 0 0 = zA μ 67 0 f := by
      rw [show nI 14 = 14 from rfl, k_pr_14]
      show zI σ 303 (nI f).toNatClampNeg = _
      rw [ef]
      exact (hs.2.2.2.2.2.2.2.2.2.2 f hf1).2.2.2.1
    rw [zans_0 h0, e2]
    exact ch_nz (pf0 f hf1)
  · exact ⟨μ, τ, pa_no h h0, RD_rf, zans_nz h0⟩
/-! 15: close -/
theorem cnt_0 {f : Nat} (h : zA μ 68 0 f = 1) : y_cntG μ f = 0 := by
  unfold y_cntG
  refine zct_0 (fun u _ => ?_)
  unfold y_reach
  rw [h]
  simp
set_option maxHeartbeats 1000000 in
theorem pf_15 (h : zP R C L K b V σ δ μ τ) (hK : K < 512) {f : Nat} (hf : f < 1000) : ∃ μ' τ', zP R C L (K + 1) b V (k_nS σ 15 (nI f) 0 0 0) (k_nD σ δ 15 (nI f) 0 0 0) μ' τ' ∧ RD 0 μ μ' ∧ (zans (k_ref σ (nI 15) (nI f) 0 0 0) (bI (decide (k_pr σ (nI 15) (nI f) 0 0 0 = 1))) < 1 ∨ (¬ zans (k_ref σ (nI 15) (nI f) 0 0 0) (bI (decide (k_pr σ (nI 15) (nI f) 0 0 0 = 1))) < 1 ∧ f < zn μ' 843 ∧ y_cntG μ' f = 0)) := by
  obtain ⟨hs, hm, hh, hk, hp⟩ := id h
  have ef : (nI f).toNatClampNeg = f := nI_clamp (by omega)
  by_cases h0 : k_ref σ (nI 15) (nI f) 0 0 0 = 0
  · obtain ⟨f1, hf1, e1, -⟩ := (ok_15 hs hm _).2 h0
    have e1' : f1 = f := by have := hm.1.2.2.2.2.2; exact (nI_inj' (by omega) (by omega) e1).symm
    rw [e1'] at hf1
    have eg : g_15 μ (nI f) = zpA μ 68 0 f 1 := by unfold g_15; rw [ef]
    obtain ⟨pn, pk, pd, pc, pq, pb, ph, pv, px, pf⟩ := pm_up hp (Nat.le_succ K) (Nat.le_refl b)
    obtain ⟨τ', hP⟩ := pa_gen h hK (za_15 hm (by omega) (nI f)) h0 (by rw [(ok_15 hs hm _).1, if_pos h0, eg]) (ν := zpA μ 68 0 f 1) (R' := R) (C' := C) (L' := L) (b' := b) (V' := V) ⟨pn, pk, pd, pc, pq, pb, ph, pv, px, pf⟩
    refine ⟨_, τ', hP, RD_rf, ?_⟩
    by_cases hz : zans (k_ref σ (nI 15) (nI f) 0 0 0) (bI (decide (k_pr σ (nI 15) (nI f) 0 0 0 = 1))) < 1
    · exact Or.inl hz
    · refine Or.inr ⟨hz, hf1, ?_⟩
      show y_cntG (zpA μ 68 0 f 1) f = 0
      exact cnt_0 (by simp [zI_pI, zI_pL, zI_pA, zL_pI, zL_pL, zL_pA, zA_pI, zA_pL, zA_pA])
  · refine ⟨μ, τ, pa_no h h0, RD_rf, Or.inl ?_⟩
    rcases zr_15 σ (nI f) 0 0 0 with z | z
    · exact absurd z h0
    · rw [zans_1 z]; decide
/-! 16: repair -/
set_option maxHeartbeats 1000000 in
theorem pf_16 (h : zP R C L K b V σ δ μ τ) (hK : K < 512) {c g : Nat} (hc : c < C) : ∃ μ' τ', zP R C L (K + 1) b V (k_nS σ 16 (nI c) (nI g) 0 0) (k_nD σ δ 16 (nI c) (nI g) 0 0) μ' τ' ∧ RD 0 μ μ' ∧ zA μ' 38 0 c = zA μ 38 0 c := by
  obtain ⟨hs, hm, hh, hk, hp⟩ := id h
  obtain ⟨q1, q2, q3, q4, q5, q6⟩ := h.nb
  have ec : (nI c).toNatClampNeg = c := nI_clamp (by omega)
  by_cases h0 : k_ref σ (nI 16) (nI c) (nI g) 0 0 = 0
  · have eg : g_16 μ (nI c).toNatClampNeg = g_16 μ c := by rw [ec]
    have pc0 := hp.2.2.2.1
    obtain ⟨pn, pk, pd, pc, pq, pb, ph, pv, px, pf⟩ := pm_up hp (Nat.le_succ K) (Nat.le_refl b)
    obtain ⟨τ', hP⟩ := pa_gen h hK (za_16 hm (by omega) (nI c) (nI g)) h0 (by rw [(ok_16 hs hm _ _).1, if_pos h0, eg]) (ν := g_16 μ c) (R' := R) (C' := C) (L' := L) (b' := b) (V' := V) ⟨pn, pk, pd, fun d hd => by
        have e44 : zA (g_16 μ c) 44 0 d = if d = c then zA μ 44 0 c + 1 else zA μ 44 0 d := by unfold g_16; simp [zI_pI, zI_pL, zI_pA, zL_pI, zL_pL, zL_pA, zA_pI, zA_pL, zA_pA]
        obtain ⟨c1, c2, c3⟩ := pc d hd
        refine ⟨c1, c2, ?_⟩
        rw [e44]
        by_cases e : d = c
        · obtain ⟨-, -, j, hj, ej⟩ := pc0 c (by rw [← e]; exact hd)
          rw [if_pos e, ej]
          exact ⟨j + 1, by omega, nI_1 j⟩
        · rw [if_neg e]; exact c3, pq, pb, ph, pv, px, pf⟩
    exact ⟨_, τ', hP, RD_rf, rfl⟩
  · exact ⟨μ, τ, pa_no h h0, RD_rf, rfl⟩
/-! 17: drop -/
set_option maxHeartbeats 1000000 in
theorem pf_17 (h : zP R C L K b V σ δ μ τ) (hK : K < 512) {c : Nat} (hc : c < C) (gd : Bool) : ∃ μ' τ', zP R C L (K + 1) b V (k_nS σ 17 (nI c) (bI gd) 0 0) (k_nD σ δ 17 (nI c) (bI gd) 0 0) μ' τ' ∧ RD 0 μ μ' ∧ ((zA μ 38 0 c = 107 ∧ zA μ' 38 0 c = 111 ∧ ∃ j, j ≤ 512 ∧ zans (k_ref σ (nI 17) (nI c) (bI gd) 0 0) (k_pr σ (nI 17) (nI c) (bI gd) 0 0) = nI j ∧ (0 < j ↔ gd = true)) ∨ (¬ zA μ 38 0 c = 107 ∧ zans (k_ref σ (nI 17) (nI c) (bI gd) 0 0) (k_pr σ (nI 17) (nI c) (bI gd) 0 0) < 0)) := by
  obtain ⟨hs, hm, hh, hk, hp⟩ := id h
  obtain ⟨q1, q2, q3, q4, q5, q6⟩ := h.nb
  have nC := pm_nc h
  have ec : (nI c).toNatClampNeg = c := nI_clamp (by omega)
  have er : k_ref σ (nI 17) (nI c) (bI gd) 0 0 = if zA μ 38 0 c = 107 then 0 else 3 := by rw [show nI 17 = 17 from rfl, k_ref_17]; exact in_ref h hc
  by_cases s : zA μ 38 0 c = 107
  · have h0 : k_ref σ (nI 17) (nI c) (bI gd) 0 0 = 0 := by rw [er, if_pos s]
    have pc0 := hp.2.2.2.1
    obtain ⟨-, ⟨j, hj, ej⟩, -⟩ := pc0 c (by omega)
    have g38 : ∀ d, zA (g_17b μ c gd) 38 0 d = if d = c then 111 else zA μ 38 0 d := fun d => by unfold g_17b; simp [zI_pI, zI_pL, zI_pA, zL_pI, zL_pL, zL_pA, zA_pI, zA_pL, zA_pA]
    have g43 : ∀ d, zA (g_17b μ c gd) 43 0 d = if d = c then (if gd = true then zA μ 43 0 c + 1 else 0) else zA μ 43 0 d := fun d => by unfold g_17b; simp [zI_pI, zI_pL, zI_pA, zL_pI, zL_pL, zL_pA, zA_pI, zA_pL, zA_pA]
    obtain ⟨p1, p2, p3⟩ := p_rdy (ν := g_17b μ c gd) (V' := V) hp rfl rfl (fun _ => rfl) (fun _ => rfl) (fun _ => rfl) (fun _ => rfl) (fun _ _ _ => rfl) (fun d _ => by rw [g38]; by_cases e : d = c <;> simp [e])
    obtain ⟨pn, pk, pd, pc, -, pb, -, -, px, pf⟩ := pm_up hp (Nat.le_succ K) (Nat.le_refl b)
    have pmb : pm R C L (K + 1) b V (g_17b μ c gd) := ⟨pn, pk, pd, fun d hd => by
        obtain ⟨c1, c2, c3⟩ := pc d hd
        refine ⟨c1, ?_, c3⟩
        rw [g43]
        by_cases e : d = c
        · rw [if_pos e, ej]
          cases gd
          · exact ⟨0, Nat.zero_le _, rfl⟩
          · exact ⟨j + 1, by omega, nI_1 j⟩
        · rw [if_neg e]; exact c2, p1, pb, p2, p3, px, pf⟩
    have q := sm_17b hs hm (by omega) (c := c) (by omega) s gd
    have key : pm R C L (K + 1) b V (g_17 μ c gd) ∧ RD 0 μ (g_17 μ c gd) ∧ zA (g_17 μ c gd) 38 0 c = 111 := by
      unfold g_17
      by_cases c1 : gd = true ∨ 12 ≤ zI μ 843 0
      · rw [if_pos c1]
        exact ⟨pmb, RD_rf, by rw [g38, if_pos rfl]⟩
      · rw [if_neg c1]
        have hlt : zn (g_17b μ c gd) 843 < 12 := zr_cap2 hm.1.2.2.2.2 (by decide) (fun z => c1 (Or.inr (show (12 : Int32) ≤ zI μ 843 0 from (zr_cap (N := 12) hm.1.2.2.2.2 (by decide)).mpr z)))
        obtain ⟨a1, a2⟩ := gF_pm q.2 pmb hlt c
        exact ⟨a1, a2, (show zA (g_F (g_17b μ c gd) c) 38 0 c = zA (g_17b μ c gd) 38 0 c from rfl).trans (by rw [g38, if_pos rfl])⟩
    obtain ⟨k1, k2, k3⟩ := key
    obtain ⟨τ', hP⟩ := pa_gen h hK (za_17 hm (by omega) (nI c) gd) h0 (by rw [(ok_17 hs hm _ _).1, if_pos h0, ec]) (ν := g_17 μ c gd) (R' := R) (C' := C) (L' := L) (b' := b) (V' := V) k1
    refine ⟨_, τ', hP, k2, Or.inl ⟨s, k3, ?_⟩⟩
    obtain ⟨c', -, -, -, hv⟩ := (ok_17 hs hm (nI c) gd).2 h0
    have hh1 : y_has μ 840 (nI c) = true := by rw [← zr_has_c hs hm]; exact has_c h hc
    rw [rx_17 hh1 (by rw [ec]; exact s), ec, ej] at hv
    rw [zans_0 h0, ← hv]
    cases gd
    · exact ⟨0, Nat.zero_le _, rfl, by decide⟩
    · exact ⟨j + 1, by omega, nI_1 j, by simp⟩
  · have h0 : ¬ k_ref σ (nI 17) (nI c) (bI gd) 0 0 = 0 := by rw [er, if_neg s]; decide
    exact ⟨μ, τ, pa_no h h0, RD_rf, Or.inr ⟨s, zans_lt h0⟩⟩
/-! 18: hire -/
def vup (V : Nat → Int64) (c : Nat) (v : Int64) : Nat → Int64 := fun d => if d = c then v else V d
theorem pm_vup (hp : pm R C L K b V μ) {c : Nat} (s : ¬ zA μ 38 0 c = 104) (v : Int64) : pm R C L K b (vup V c v) μ := by
  obtain ⟨pn, pk, pd, pc, pq, pb, ph, pv, px, pf⟩ := hp
  refine ⟨pn, pk, pd, pc, pq, pb, ph, fun d hd t => ?_, px, pf⟩
  unfold vup
  rw [if_neg (fun z => s (by rw [← z]; exact t))]
  exact pv d hd t
set_option maxHeartbeats 1000000 in
theorem pf_18 (h : zP R C L K b V σ δ μ τ) (hK : K < 512) {c x y : Nat} (hc : c < C) (hx0 : 1 ≤ x) (hx : x ≤ 30) (hy : y ≤ 60) (s4 : ¬ zA μ 38 0 c = 104) : ∃ μ' τ', RD 0 μ μ' ∧ ((zans (k_ref σ (nI 18) (nI c) (nI x) (nI y) 0) (k_pr σ (nI 18) (nI c) (nI x) (nI y) 0) = -76 ∧ zP R C L (K + 1) b (vup V c 0) (k_nS σ 18 (nI c) (nI x) (nI y) 0) (k_nD σ δ 18 (nI c) (nI x) (nI y) 0) μ' τ') ∨ (0 < zans (k_ref σ (nI 18) (nI c) (nI x) (nI y) 0) (k_pr σ (nI 18) (nI c) (nI x) (nI y) 0) ∧ zA μ 38 0 c = 107 ∧ zA μ' 38 0 c = 104 ∧ zP R C L (K + 1) b (vup V c (nI y).toInt64) (k_nS σ 18 (nI c) (nI x) (nI y) 0) (k_nD σ δ 18 (nI c) (nI x) (nI y) 0) μ' τ')) := by
  obtain ⟨hs, hm, hh, hk, hp⟩ := id h
  obtain ⟨q1, q2, q3, q4, q5, q6⟩ := h.nb
  have nC := pm_nc h
  have ec : (nI c).toNatClampNeg = c := nI_clamp (by omega)
  obtain ⟨d9, hd9, ed9⟩ := hm.2.1.1
  by_cases h0 : k_ref σ (nI 18) (nI c) (nI x) (nI y) 0 = 0
  · obtain ⟨c1, hc1, e1, s, -⟩ := (ok_18 hs hm _ _ _).2 h0
    have e1' : c1 = c := (nI_inj' (by omega) (by omega) e1).symm
    rw [e1'] at s
    have eg : g_18 μ (nI c) (nI x) (nI y) = zpA (zpA (zpA μ 38 0 c 104) 52 0 c (nI (d9 + x))) 53 0 c (nI y) := by unfold g_18; rw [ec, ed9, nI_add]
    have g38 : ∀ d, zA (zpA (zpA (zpA μ 38 0 c 104) 52 0 c (nI (d9 + x))) 53 0 c (nI y)) 38 0 d = if d = c then 104 else zA μ 38 0 d := fun d => by simp [zI_pI, zI_pL, zI_pA, zL_pI, zL_pL, zL_pA, zA_pI, zA_pL, zA_pA]
    have g52 : ∀ d, zA (zpA (zpA (zpA μ 38 0 c 104) 52 0 c (nI (d9 + x))) 53 0 c (nI y)) 52 0 d = if d = c then nI (d9 + x) else zA μ 52 0 d := fun d => by simp [zI_pI, zI_pL, zI_pA, zL_pI, zL_pL, zL_pA, zA_pI, zA_pL, zA_pA]
    have g53 : ∀ d, zA (zpA (zpA (zpA μ 38 0 c 104) 52 0 c (nI (d9 + x))) 53 0 c (nI y)) 53 0 d = if d = c then nI y else zA μ 53 0 d := fun d => by simp [zI_pI, zI_pL, zI_pA, zL_pI, zL_pL, zL_pA, zA_pI, zA_pL, zA_pA]
    obtain ⟨pn, pk, pd, pc, pq, pb, ph, pv, px, pf⟩ := pm_up hp (Nat.le_succ K) (Nat.le_refl b)
    obtain ⟨τ', hP⟩ := pa_gen h hK (za_18 hm (by omega) (nI c) (nI x) (nI y)) h0 (by rw [(ok_18 hs hm _ _ _).1, if_pos h0, eg]) (ν := zpA (zpA (zpA μ 38 0 c 104) 52 0 c (nI (d9 + x))) 53 0 c (nI y)) (R' := R) (C' := C) (L' := L) (b' := b) (V' := vup V c (nI y).toInt64) ⟨pn, pk, pd, pc, fun d hd hr => by
        rw [y_rd, g38] at hr
        by_cases e : d = c
        · exact pq d hd (y_rd.mpr (Or.inl (by rw [e]; exact s)))
        · rw [if_neg e] at hr; exact pq d hd (y_rd.mpr hr), pb, fun d e hd he t1 t2 t3 => by
        rw [g38] at t1 t2
        by_cases e1 : d = c
        · rw [if_pos e1] at t1; exact absurd t1 (by decide)
        · by_cases e2 : e = c
          · rw [if_pos e2] at t2; exact absurd t2 (by decide)
          · rw [if_neg e1] at t1
            rw [if_neg e2] at t2
            exact ph d e hd he t1 t2 t3, fun d hd t1 => by
        rw [g38] at t1
        rw [g52, g53]
        unfold vup
        by_cases e1 : d = c
        · rw [if_pos e1, if_pos e1, if_pos e1]
          exact ⟨rfl, ⟨y, hy, rfl⟩, d9 + x, by omega, rfl⟩
        · rw [if_neg e1] at t1
          rw [if_neg e1, if_neg e1, if_neg e1]
          exact pv d hd t1, px, pf⟩
    refine ⟨zpI (zpA (zpA (zpA μ 38 0 c 104) 52 0 c (nI (d9 + x))) 53 0 c (nI y)) 838 0 0, τ', RD_rf, Or.inr ⟨?_, s, ?_, hP⟩⟩
    · rw [zans_0 h0, show nI 18 = 18 from rfl, k_pr_18]
      show 0 < r_X5_handOut (zpI σ 512 0 (zI σ 512 0 + 1)) (nI c).toNatClampNeg (nI x) (nI y)
      unfold r_X5_handOut
      rw [zI_pI, if_neg (fun z => absurd z.1 (by decide)), zI_pI, if_pos ⟨rfl, rfl⟩]
      show 0 < zI σ 509 0 + nI x
      rw [hs.1.2.2.2.2.2.1, ed9, nI_add]
      exact nI_gt0 (by omega) (by omega)
    · show zA (zpA (zpA (zpA μ 38 0 c 104) 52 0 c (nI (d9 + x))) 53 0 c (nI y)) 38 0 c = 104
      rw [g38, if_pos rfl]
  · have hn := pa_no h h0
    refine ⟨μ, τ, RD_rf, Or.inl ⟨zans_3 ?_, hn.1, hn.2.1, hn.2.2.1, hn.2.2.2.1, pm_vup hn.2.2.2.2 s4 0⟩⟩
    revert h0
    rw [show nI 18 = 18 from rfl, k_ref_18]
    unfold r_X8_refusalOf_18 r_X8_ofHire
    have i1 : k_in (nI x) 1 30 = true := kin_iff.mpr ⟨(nI_leI (a := 1) (by decide) (by omega)).mpr hx0, (nI_leI (b := 30) (by omega) (by decide)).mpr hx⟩
    have i2 : k_in (nI y) 0 999 = true := kin_iff.mpr ⟨nI_pos' (by omega), (nI_leI (b := 999) (by omega) (by decide)).mpr (by omega)⟩
    rw [if_pos (has_c h hc), i1, if_neg (by decide), if_pos i2]
    (repeat' split) <;> first | exact fun _ => rfl | exact fun z => absurd rfl z
/-! 19: back -/
set_option maxHeartbeats 1000000 in
theorem pf_19 (h : zP R C L K b V σ δ μ τ) (hK : K < 512) {c : Nat} (hc : c < C) (us dm : Bool) (s : zA μ 38 0 c = 104) : ∃ μ' τ', zP R C L (K + 1) b (vup V c 0) (k_nS σ 19 (nI c) (bI us) (bI dm) 0) (k_nD σ δ 19 (nI c) (bI us) (bI dm) 0) μ' τ' ∧ RD 0 μ μ' ∧ zA μ' 38 0 c = (if us = true then 111 else 107) ∧ ∃ p x, p ≤ x ∧ x ≤ 60 ∧ zans (k_ref σ (nI 19) (nI c) (bI us) (bI dm) 0) (k_pr σ (nI 19) (nI c) (bI us) (bI dm) 0) = nI p ∧ V c = (nI x).toInt64 := by
  obtain ⟨hs, hm, hh, hk, hp⟩ := id h
  obtain ⟨q1, q2, q3, q4, q5, q6⟩ := h.nb
  have nC := pm_nc h
  have ec : (nI c).toNatClampNeg = c := nI_clamp (by omega)
  have h0 : k_ref σ (nI 19) (nI c) (bI us) (bI dm) 0 = 0 := by rw [show nI 19 = 19 from rfl, k_ref_19]; exact (in_ref h hc).trans (if_pos s)
  obtain ⟨pV, ⟨x, hx, ex⟩, y, hy, ey⟩ := hp.2.2.2.2.2.2.2.1 c (by omega) s
  obtain ⟨d9, hd9, ed9⟩ := hm.2.1.1
  have epaid : ∃ p, p ≤ x ∧ y_paid μ c dm = nI p := by
    unfold y_paid
    rw [ex, ey, ed9, k_max0 (by omega) (by omega), show (5 : Int32) = nI 5 from rfl, pk_mul]
    cases dm
    · rw [if_neg (by decide), Int32.add_zero, k_max0 (by omega) (by omega)]
      exact ⟨_, by omega, rfl⟩
    · rw [if_pos rfl, show (50 : Int32) = nI 50 from rfl, nI_add, k_max0 (by omega) (by omega)]
      exact ⟨_, by omega, rfl⟩
  obtain ⟨p, hpx, ep⟩ := epaid
  obtain ⟨w, hw, ew⟩ := hp.2.2.2.2.2.2.2.2.1
  have ek : zL μ 847 0 + (zA μ 53 0 c - y_paid μ c dm).toInt64 = Int64.ofNat (w + (x - p)) := by
    rw [ew, ex, ep, pk_sub hpx, zl_nI (by omega), zl_add]
  have g38 : ∀ d, zA (g_19b μ c us dm) 38 0 d = if d = c then (if us = true then 111 else 107) else zA μ 38 0 d := fun d => by unfold g_19b; simp [zI_pI, zI_pL, zI_pA, zL_pI, zL_pL, zL_pA, zA_pI, zA_pL, zA_pA]
  have g847 : zL (g_19b μ c us dm) 847 0 = Int64.ofNat (w + (x - p)) := by unfold g_19b; simp only [zL_pA, zL_pL, and_self, if_true]; exact ek
  obtain ⟨p1, p2, p3⟩ := p_rdy (ν := g_19b μ c us dm) (V' := vup V c 0) hp rfl rfl (fun _ => rfl) (fun _ => rfl) (fun _ => rfl) (fun _ => rfl) (fun d _ t => by
      unfold vup
      by_cases e : d = c
      · rw [g38, if_pos e] at t
        cases us <;> exact absurd t (by decide)
      · rw [if_neg e]) (fun d _ => by
      rw [g38]
      by_cases e : d = c
      · rw [if_pos e]
        cases us
        · exact Or.inr (Or.inr ⟨Or.inl rfl, y_rd.mpr (Or.inr (Or.inr (by rw [e]; exact s)))⟩)
        · exact Or.inr (Or.inl rfl)
      · rw [if_neg e]; exact Or.inl rfl)
  obtain ⟨pn, pk, pd, pc, -, pb, -, -, -, pf⟩ := pm_up hp (Nat.le_succ K) (Nat.le_refl b)
  have pmb : pm R C L (K + 1) b (vup V c 0) (g_19b μ c us dm) := ⟨pn, pk, pd, pc, p1, pb, p2, p3, ⟨w + (x - p), by omega, g847⟩, pf⟩
  have rdb : RD 0 μ (g_19b μ c us dm) := ⟨Nat.le_refl _, Nat.le_refl _, fun _ _ => rfl, by rw [g847, ew]; exact zl_le (by omega) (by omega) (by omega)⟩
  have q := sm_19b hs hm (by omega) (c := c) (by omega) s us dm
  have key : pm R C L (K + 1) b (vup V c 0) (g_19 μ c us dm) ∧ RD 0 μ (g_19 μ c us dm) ∧ zA (g_19 μ c us dm) 38 0 c = (if us = true then 111 else 107) := by
    unfold g_19
    by_cases c1 : dm = false ∨ 12 ≤ zI μ 843 0
    · rw [if_pos c1]
      exact ⟨pmb, rdb, by rw [g38, if_pos rfl]⟩
    · rw [if_neg c1]
      have hlt : zn (g_19b μ c us dm) 843 < 12 := zr_cap2 hm.1.2.2.2.2 (by decide) (fun z => c1 (Or.inr (show (12 : Int32) ≤ zI μ 843 0 from (zr_cap (N := 12) hm.1.2.2.2.2 (by decide)).mpr z)))
      obtain ⟨a1, a2⟩ := gF_pm q.2 pmb hlt c
      exact ⟨a1, RD_tr rdb a2, (show zA (g_F (g_19b μ c us dm) c) 38 0 c = zA (g_19b μ c us dm) 38 0 c from rfl).trans (by rw [g38, if_pos rfl])⟩
  obtain ⟨k1, k2, k3⟩ := key
  obtain ⟨τ', hP⟩ := pa_gen h hK (za_19 hm (by omega) (nI c) us dm) h0 (by rw [(ok_19 hs hm _ _ _).1, if_pos h0, ec]) (ν := g_19 μ c us dm) (R' := R) (C' := C) (L' := L) (b' := b) (V' := vup V c 0) k1
  refine ⟨_, τ', hP, k2, k3, p, x, hpx, hx, ?_, by rw [pV, ex]⟩
  rw [zans_0 h0, (k_pf_19b σ (nI c) us dm).2, (s_19_eq _ (nI c) us dm).2, ec, k_paid_eq hs (by omega) s dm, ep]
end ZPR
