section ZPO
variable {σ μ τ δ ν : zS} {R C L K b : Nat} {V : Nat → Int64}
theorem zans_ng {r : Nat} {v : Int32} (h : ¬ r = 0) : ¬ 0 < zans r v := by
  unfold zans
  split <;> first | exact absurd rfl h | decide
theorem zans_nz {r : Nat} {v : Int32} (h : ¬ r = 0) : ¬ zans r v = 0 := by
  unfold zans
  split <;> first | exact absurd rfl h | decide
theorem has_c (h : zP R C L K b V σ δ μ τ) {c : Nat} (hc : c < C) : k_has σ 506 (nI c) = true := by
  have nC := pm_nc h
  exact zhas_nI h.zv.2.1 (by decide) (by rw [zr_nc h.1]; omega)
theorem has_c_no (h : zP R C L K b V σ δ μ τ) {c : Nat} (hc : C ≤ c) (hc2 : c < 1000) : k_has σ 506 (nI c) = false := by
  obtain ⟨q1, q2, q3, q4, q5, q6⟩ := h.nb
  unfold k_has
  rw [h.1.1.2.1, q5, decide_eq_true ((nI_leI (by omega) (by omega)).mpr hc)]
  simp
/-! 5: hang -/
set_option maxHeartbeats 1000000 in
theorem pf_5 (h : zP R C L K b V σ δ μ τ) (hK : K < 512) {c j : Nat} (hc : c < C) (hj : j < 6) : ∃ μ' τ', zP R C L (K + 1) b V (k_nS σ 5 (nI c) (nI j) 0 0) (k_nD σ δ 5 (nI c) (nI j) 0 0) μ' τ' ∧ ((0 < zans (k_ref σ (nI 5) (nI c) (nI j) 0 0) (k_pr σ (nI 5) (nI c) (nI j) 0 0) ∧ RD 0 μ μ' ∧ zA μ' 38 0 c = 112 ∧ zA μ' 40 0 c = 0) ∨ (¬ 0 < zans (k_ref σ (nI 5) (nI c) (nI j) 0 0) (k_pr σ (nI 5) (nI c) (nI j) 0 0) ∧ μ' = μ ∧ (zA μ 38 0 c = 111 → zans (k_ref σ (nI 5) (nI c) (nI j) 0 0) (k_pr σ (nI 5) (nI c) (nI j) 0 0) = -79))) := by
  obtain ⟨hs, hm, hh, hk, hp⟩ := id h
  obtain ⟨q1, q2, q3, q4, q5, q6⟩ := h.nb
  have nC := pm_nc h
  have ec : (nI c).toNatClampNeg = c := nI_clamp (by omega)
  have e105 : zI σ 105 c = zA μ 38 0 c := (hs.2.2.2.1 c (by omega)).1
  by_cases h0 : k_ref σ (nI 5) (nI c) (nI j) 0 0 = 0
  · obtain ⟨c1, j1, hc1, e1, hj1, e2, s1, u1⟩ := ok_5 hs hm h0
    have e1' : c1 = c := (nI_inj' (by omega) (by omega) e1).symm
    have e2' : j1 = j := (nI_inj' (by omega) (by omega) e2).symm
    rw [e1'] at s1
    rw [e2'] at u1
    have eg : g_5 μ (nI c) (nI j) = zpA (zpA (zpA μ 38 0 c 112) 39 0 c (nI j)) 40 0 c 0 := by unfold g_5; rw [ec]
    have hp1 := pm_up hp (Nat.le_succ K) (Nat.le_refl b)
    obtain ⟨⟨nR, -, nL⟩, pk, pd, pc, pq, pb, ph, pv, px, pf⟩ := hp1
    have g38 : ∀ d, zA (zpA (zpA (zpA μ 38 0 c 112) 39 0 c (nI j)) 40 0 c 0) 38 0 d = if d = c then 112 else zA μ 38 0 d := fun d => by simp [zI_pI, zI_pL, zI_pA, zL_pI, zL_pL, zL_pA, zA_pI, zA_pL, zA_pA]
    have g39 : ∀ d, zA (zpA (zpA (zpA μ 38 0 c 112) 39 0 c (nI j)) 40 0 c 0) 39 0 d = if d = c then nI j else zA μ 39 0 d := fun d => by simp [zI_pI, zI_pL, zI_pA, zL_pI, zL_pL, zL_pA, zA_pI, zA_pL, zA_pA]
    have nou : ∀ e, e < zn μ 840 → zA μ 38 0 e = 112 → ¬ zA μ 39 0 e = nI j := fun e he s z => by
      have : y_used μ (nI j) = true := zany_iff.mpr ⟨e, he, by rw [s, z]; simp⟩
      rw [u1] at this
      exact absurd this (by decide)
    obtain ⟨τ', hP⟩ := pa_gen h hK (za_5 hm (by omega) (nI c) (nI j)) h0 (by rw [fe_5 hs hm, if_pos h0, eg]) (ν := zpA (zpA (zpA μ 38 0 c 112) 39 0 c (nI j)) 40 0 c 0) (R' := R) (C' := C) (L' := L) (b' := b) (V' := V) ⟨⟨nR, nC, nL⟩, pk, pd, pc, fun d hd hr => by
        rw [y_rd, g38] at hr
        by_cases e : d = c
        · rw [if_pos e] at hr; exact absurd hr (by decide)
        · rw [if_neg e] at hr; exact pq d hd (y_rd.mpr hr), pb, fun d e hd he t1 t2 t3 => by
        rw [g38] at t1 t2
        rw [g39, g39] at t3
        by_cases e1 : d = c
        · by_cases e2 : e = c
          · rw [e1, e2]
          · rw [if_neg e2] at t2
            rw [if_pos e1, if_neg e2] at t3
            exact absurd t3.symm (nou e he t2)
        · rw [if_neg e1] at t1
          by_cases e2 : e = c
          · rw [if_neg e1, if_pos e2] at t3
            exact absurd t3 (nou d hd t1)
          · rw [if_neg e2] at t2
            rw [if_neg e1, if_neg e2] at t3
            exact ph d e hd he t1 t2 t3, fun d hd t1 => by
        rw [g38] at t1
        by_cases e : d = c
        · rw [if_pos e] at t1; exact absurd t1 (by decide)
        · rw [if_neg e] at t1; exact pv d hd t1, px, pf⟩
    refine ⟨_, τ', hP, Or.inl ⟨?_, RD_rf, ?_, ?_⟩⟩
    · rw [zans_0 h0, show nI 5 = 5 from rfl, k_pr_5]
      show 0 < r_X5_putOnHook (zpI σ 512 0 (zI σ 512 0 + 1)) (nI c) (nI j)
      unfold r_X5_putOnHook
      have en : zn (zpI σ 512 0 (zI σ 512 0 + 1)) 506 = C := by show zn σ 506 = C; rw [zr_nc hs, nC]
      rw [en]
      refine nI_gt0 (zct_pos (k := c) ?_ hc) (Nat.lt_of_le_of_lt (zct_le _ _) (by omega))
      unfold f_X5_putOnHook
      rw [ec]
      simp [zI_pI, zI_pL, zI_pA, zL_pI, zL_pL, zL_pA, zA_pI, zA_pL, zA_pA]
    · show zA (zpA (zpA (zpA μ 38 0 c 112) 39 0 c (nI j)) 40 0 c 0) 38 0 c = 112
      rw [g38, if_pos rfl]
    · show zA (zpA (zpA (zpA μ 38 0 c 112) 39 0 c (nI j)) 40 0 c 0) 40 0 c = 0
      simp [zI_pI, zI_pL, zI_pA, zL_pI, zL_pL, zL_pA, zA_pI, zA_pL, zA_pA]
  · refine ⟨μ, τ, pa_no h h0, Or.inr ⟨zans_ng h0, rfl, fun s => zans_4 ?_⟩⟩
    revert h0
    rw [show nI 5 = 5 from rfl, k_ref_5]
    unfold r_X8_refusalOf_5 r_X8_ofHang
    have i5 : k_in (nI j) 0 5 = true := kin_iff.mpr ⟨nI_pos' (by omega), (nI_leI (b := 5) (by omega) (by decide)).mpr (by omega)⟩
    rw [if_pos (has_c h hc), if_pos i5, ec, e105, if_pos s]
    split
    · exact fun _ => rfl
    · exact fun z => absurd rfl z
/-! 6: step -/
theorem g6_4 : ∀ k, k ≤ 4 → (nI k = 4 ↔ k = 4) := by decide
set_option maxHeartbeats 1000000 in
theorem pf_6 (h : zP R C L K b V σ δ μ τ) (hK : K < 512) {c k g : Nat} (hc : c < C) (hk4 : k ≤ 4) (hg : g < R) (s : zA μ 38 0 c = 112) (e40 : zA μ 40 0 c = nI k) : ∃ μ' τ', zP R C L (K + 1) b V (k_nS σ 6 (nI c) (nI g) 0 0) (k_nD σ δ 6 (nI c) (nI g) 0 0) μ' τ' ∧ ((zans (k_ref σ (nI 6) (nI c) (nI g) 0 0) (k_pr σ (nI 6) (nI c) (nI g) 0 0) = nI (k + 1) ∧ RD 0 μ μ' ∧ k < 4 ∧ zA μ' 38 0 c = 112 ∧ zA μ' 40 0 c = nI (k + 1)) ∨ (zans (k_ref σ (nI 6) (nI c) (nI g) 0 0) (k_pr σ (nI 6) (nI c) (nI g) 0 0) = nI (k + 1) ∧ RD 1 μ μ' ∧ k = 4 ∧ zA μ' 38 0 c = 107) ∨ (zans (k_ref σ (nI 6) (nI c) (nI g) 0 0) (k_pr σ (nI 6) (nI c) (nI g) 0 0) < 0 ∧ μ' = μ)) := by
  obtain ⟨hs, hm, hh, hk, hp⟩ := id h
  obtain ⟨q1, q2, q3, q4, q5, q6⟩ := h.nb
  have nC := pm_nc h
  have ec : (nI c).toNatClampNeg = c := nI_clamp (by omega)
  have eg0 : (nI g).toNatClampNeg = g := nI_clamp (by omega)
  have ek : (nI k).toNatClampNeg = k := nI_clamp (by omega)
  have e105 : zI σ 105 c = zA μ 38 0 c := (hs.2.2.2.1 c (by omega)).1
  obtain ⟨-, w2, w3⟩ := (hs.2.2.2.2.2.1 c (by omega)).1 s
  have w2 : zI σ 107 c = nI k := w2.trans e40
  rw [e40, ek] at w3
  by_cases h0 : k_ref σ (nI 6) (nI c) (nI g) 0 0 = 0
  · have hp1 := pm_up hp (Nat.le_succ K) (Nat.le_refl b)
    obtain ⟨⟨nR, -, nL⟩, pk, pd, pc, pq, pb, ph, pv, px, pf⟩ := hp1
    have hv : zans (k_ref σ (nI 6) (nI c) (nI g) 0 0) (k_pr σ (nI 6) (nI c) (nI g) 0 0) = nI (k + 1) := by
      rw [zans_0 h0, show nI 6 = 6 from rfl, k_pr_6]
      show r_X5_doStep (zpI σ 512 0 (zI σ 512 0 + 1)) (nI c) (nI g) = _
      unfold r_X5_doStep
      rw [ec]
      simp only [zI_pI, zI_pL, zI_pA, zL_pI, zL_pL, zL_pA, zA_pI, zA_pL, zA_pA, ite_self, and_self, if_true]
      rw [if_neg (fun z => absurd z.1 (by decide)), w2, nI_1]
    rcases Nat.lt_or_ge k 4 with hk' | hk'
    · have eg : g_6 μ (nI c) (nI g) = g_6a μ c k g := by
        unfold g_6
        rw [ec, eg0, e40, ek, if_neg (fun z => by have := (g6_4 k hk4).mp z; omega)]
      obtain ⟨τ', hP⟩ := pa_gen h hK (za_6 hm (by omega) (nI c) (nI g)) h0 (by rw [(ok_6 hs hm (by omega) _ _).1, if_pos h0, eg]) (ν := g_6a μ c k g) (R' := R) (C' := C) (L' := L) (b' := b) (V' := V) ⟨⟨nR, nC, nL⟩, pk, pd, pc, pq, pb, ph, pv, px, pf⟩
      refine ⟨_, τ', hP, Or.inl ⟨hv, RD_rf, hk', s, ?_⟩⟩
      show zA (g_6a μ c k g) 40 0 c = _
      unfold g_6a
      simp [zI_pI, zI_pL, zI_pA, zL_pI, zL_pL, zL_pA, zA_pI, zA_pL, zA_pA]
    · have ek4 : k = 4 := by omega
      subst ek4
      have eg : g_6 μ (nI c) (nI g) = y_fin (g_6a μ c 4 g) c (zn μ 841) := by
        unfold g_6
        rw [ec, eg0, e40, if_pos (show nI 4 = (4 : Int32) from rfl)]
      have b3 := hm.1.2.2.1.2
      have hand : ¬ zA μ 54 0 (5 * c + 3) = nI g := by
        rw [← w3 3 (by decide)]
        intro z
        revert h0
        rw [show nI 6 = 6 from rfl, k_ref_6]
        unfold r_X8_refusalOf_6 r_X8_ofStep
        rw [ec, w2, show ((3 : Int32).toNatClampNeg) = 3 from rfl, z]
        have x4 : nI 4 = (4 : Int32) := rfl
        rw [if_neg (not_not_intro x4), if_neg (show ¬ ¬ nI g = nI g from not_not_intro rfl)]
        intro h0
        repeat' split at h0
        all_goals exact absurd h0 (by decide)
      generalize hnp : zn μ 841 = np at eg b3
      have n841 : zn (y_fin (g_6a μ c 4 g) c np) 841 = np + 1 := by
        show (nI (np + 1)).toNatClampNeg = np + 1
        exact nI_clamp (by omega)
      have g38 : ∀ d, zA (y_fin (g_6a μ c 4 g) c np) 38 0 d = if d = c then 107 else zA μ 38 0 d := fun d => by unfold y_fin g_6a; simp [zI_pI, zI_pL, zI_pA, zL_pI, zL_pL, zL_pA, zA_pI, zA_pL, zA_pA]
      have g55 : ∀ d, zA (y_fin (g_6a μ c 4 g) c np) 55 0 d = if d = np then nI c else zA μ 55 0 d := fun d => by unfold y_fin g_6a; simp [zI_pI, zI_pL, zI_pA, zL_pI, zL_pL, zL_pA, zA_pI, zA_pL, zA_pA]
      have g57 : ∀ d, zA (y_fin (g_6a μ c 4 g) c np) 57 0 d = if d = np then zI μ 844 0 else zA μ 57 0 d := fun d => by unfold y_fin g_6a; simp [zI_pI, zI_pL, zI_pA, zL_pI, zL_pL, zL_pA, zA_pI, zA_pL, zA_pA]
      have v3 : zA (y_fin (g_6a μ c 4 g) c np) 58 0 (np * 5 + 3) = zA μ 54 0 (5 * c + 3) := by rw [Nat.mul_comm np 5]; unfold y_fin g_6a; simp [zI_pI, zI_pL, zI_pA, zL_pI, zL_pL, zL_pA, zA_pI, zA_pL, zA_pA]
      have v4 : zA (y_fin (g_6a μ c 4 g) c np) 58 0 (np * 5 + 4) = nI g := by rw [Nat.mul_comm np 5]; unfold y_fin g_6a; simp [zI_pI, zI_pL, zI_pA, zL_pI, zL_pL, zL_pA, zA_pI, zA_pL, zA_pA]
      have v58 : ∀ i q, i < np → q < 5 → zA (y_fin (g_6a μ c 4 g) c np) 58 0 (i * 5 + q) = zA μ 58 0 (i * 5 + q) := fun i q hi hq => by
        have d0 : ∀ p, p < 5 → ¬ i * 5 + q = 5 * np + p := fun p hp => by omega
        have d1 := d0 0 (by decide)
        have d2 := d0 1 (by decide)
        have d3 := d0 2 (by decide)
        have d4 := d0 3 (by decide)
        have d5 := d0 4 (by decide)
        unfold y_fin g_6a
        simp only [zI_pI, zI_pL, zI_pA, zL_pI, zL_pL, zL_pA, zA_pI, zA_pL, zA_pA, d1, d2, d3, d4, d5, and_false, if_false]
        simp
      have day : ∀ i, i < np → zA μ 57 0 i ≤ zI μ 844 0 := fun i hi => (pb i (by omega)).2.1
      obtain ⟨τ', hP⟩ := pa_gen h hK (za_6 hm (by omega) (nI c) (nI g)) h0 (by rw [(ok_6 hs hm (by omega) _ _).1, if_pos h0, eg]) (ν := y_fin (g_6a μ c 4 g) c np) (R' := R) (C' := C) (L' := L) (b' := b) (V' := V) ⟨⟨nR, nC, nL⟩, pk, pd, pc, fun d hd hr => by
          rw [n841]
          by_cases e : d = c
          · exact ⟨np, by omega, by rw [g55, if_pos rfl, e]⟩
          · rw [y_rd, g38, if_neg e] at hr
            obtain ⟨i, hi, ei⟩ := pq d hd (y_rd.mpr hr)
            exact ⟨i, by omega, by rw [g55, if_neg (by omega)]; exact ei⟩, fun i hi => by
          rw [n841] at hi
          by_cases e : i = np
          · rw [e, v3, v4, g57, if_pos rfl]
            refine ⟨hand, Int32.le_refl _, fun j hj => ?_⟩
            rw [g57]
            by_cases e2 : j = np
            · rw [if_pos e2]; exact Int32.le_refl _
            · rw [if_neg e2]; exact day j (by omega)
          · obtain ⟨a1, a2, a3⟩ := pb i (by omega)
            rw [v58 i 3 (by omega) (by decide), v58 i 4 (by omega) (by decide), g57, if_neg e]
            refine ⟨a1, a2, fun j hj => ?_⟩
            rw [g57, if_neg (by omega)]
            exact a3 j hj, fun d e hd he t1 t2 t3 => by
          rw [g38] at t1 t2
          by_cases e1 : d = c
          · rw [if_pos e1] at t1; exact absurd t1 (by decide)
          · by_cases e2 : e = c
            · rw [if_pos e2] at t2; exact absurd t2 (by decide)
            · rw [if_neg e1] at t1
              rw [if_neg e2] at t2
              exact ph d e hd he t1 t2 t3, fun d hd t1 => by
          rw [g38] at t1
          by_cases e1 : d = c
          · rw [if_pos e1] at t1; exact absurd t1 (by decide)
          · rw [if_neg e1] at t1; exact pv d hd t1, px, pf⟩
      refine ⟨_, τ', hP, Or.inr (Or.inl ⟨hv, ?_, rfl, ?_⟩)⟩
      · refine ⟨?_, ?_, fun i hi => ?_, Int64.le_refl _⟩
        · show zn μ 841 ≤ zn (y_fin (g_6a μ c 4 g) c np) 841
          omega
        · show zn (y_fin (g_6a μ c 4 g) c np) 841 ≤ zn μ 841 + 1
          omega
        · show zA (y_fin (g_6a μ c 4 g) c np) 55 0 i = _
          rw [g55, if_neg (by omega)]
      · show zA (y_fin (g_6a μ c 4 g) c np) 38 0 c = 107
        rw [g38, if_pos rfl]
  · exact ⟨μ, τ, pa_no h h0, Or.inr (Or.inr ⟨zans_lt h0, rfl⟩)⟩
/-! 7: breakOff -/
theorem in_ref (h : zP R C L K b V σ δ μ τ) {c : Nat} (hc : c < C) {ch : Int32} : r_X8_ofCanopyIn σ (nI c) ch = if zA μ 38 0 c = ch then 0 else 3 := by
  obtain ⟨q1, q2, q3, q4, q5, q6⟩ := h.nb
  have nC := pm_nc h
  unfold r_X8_ofCanopyIn
  rw [if_pos (has_c h hc), nI_clamp (by omega), (h.1.2.2.2.1 c (by omega)).1]
  by_cases e : zA μ 38 0 c = ch
  · rw [if_pos e, if_neg (not_not_intro e)]
  · rw [if_neg e, if_pos e]
theorem pf_7 (h : zP R C L K b V σ δ μ τ) (hK : K < 512) {c : Nat} (hc : c < C) : ∃ μ' τ', zP R C L (K + 1) b V (k_nS σ 7 (nI c) 0 0 0) (k_nD σ δ 7 (nI c) 0 0 0) μ' τ' ∧ ((zA μ 38 0 c = 112 ∧ ¬ zans (k_ref σ (nI 7) (nI c) 0 0 0) (k_pr σ (nI 7) (nI c) 0 0 0) < 0 ∧ RD 0 μ μ' ∧ zA μ' 38 0 c = 111) ∨ (¬ zA μ 38 0 c = 112 ∧ zans (k_ref σ (nI 7) (nI c) 0 0 0) (k_pr σ (nI 7) (nI c) 0 0 0) < 0 ∧ μ' = μ)) := by
  obtain ⟨hs, hm, hh, hk, hp⟩ := id h
  obtain ⟨q1, q2, q3, q4, q5, q6⟩ := h.nb
  have nC := pm_nc h
  have ec : (nI c).toNatClampNeg = c := nI_clamp (by omega)
  have er : k_ref σ (nI 7) (nI c) 0 0 0 = if zA μ 38 0 c = 112 then 0 else 3 := by rw [show nI 7 = 7 from rfl, k_ref_7]; exact in_ref h hc
  by_cases s : zA μ 38 0 c = 112
  · have h0 : k_ref σ (nI 7) (nI c) 0 0 0 = 0 := by rw [er, if_pos s]
    have eg : g_7 μ (nI c) = zpA μ 38 0 c 111 := by unfold g_7; rw [ec]
    have g38 : ∀ d, zA (zpA μ 38 0 c 111) 38 0 d = if d = c then 111 else zA μ 38 0 d := fun d => by simp [zI_pI, zI_pL, zI_pA, zL_pI, zL_pL, zL_pA, zA_pI, zA_pL, zA_pA]
    obtain ⟨p1, p2, p3⟩ := p_rdy (ν := zpA μ 38 0 c 111) (V' := V) hp rfl rfl (fun _ => rfl) (fun _ => rfl) (fun _ => rfl) (fun _ => rfl) (fun _ _ _ => rfl) (fun d _ => by rw [g38]; by_cases e : d = c <;> simp [e])
    have hp1 := pm_up hp (Nat.le_succ K) (Nat.le_refl b)
    obtain ⟨⟨nR, -, nL⟩, pk, pd, pc, -, pb, -, -, px, pf⟩ := hp1
    obtain ⟨τ', hP⟩ := pa_gen h hK (za_7 hm (by omega) (nI c)) h0 (by rw [fe_7 hs hm, if_pos h0, eg]) (ν := zpA μ 38 0 c 111) (R' := R) (C' := C) (L' := L) (b' := b) (V' := V) ⟨⟨nR, nC, nL⟩, pk, pd, pc, p1, pb, p2, p3, px, pf⟩
    refine ⟨_, τ', hP, Or.inl ⟨s, ?_, RD_rf, ?_⟩⟩
    · rw [zans_0 h0, show nI 7 = 7 from rfl, k_pr_7]
      show ¬ r_X5_takeOffHook (zpI σ 512 0 (zI σ 512 0 + 1)) (nI c).toNatClampNeg < 0
      rw [ec]
      show ¬ zI σ 107 c < 0
      obtain ⟨-, k, hk4, ek, -⟩ := hm.2.2.2.1 c (by omega) s
      rw [((hs.2.2.2.2.2.1 c (by omega)).1 s).2.1, ek]
      exact nI_pos (by omega)
    · show zA (zpA μ 38 0 c 111) 38 0 c = 111
      rw [g38, if_pos rfl]
  · have h0 : ¬ k_ref σ (nI 7) (nI c) 0 0 0 = 0 := by rw [er, if_neg s]; decide
    exact ⟨μ, τ, pa_no h h0, Or.inr ⟨s, zans_lt h0, rfl⟩⟩
end ZPO
