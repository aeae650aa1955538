section ZPQ
variable {σ μ τ δ ν : zS} {R C L K b : Nat} {V : Nat → Int64}
/-! 9: board -/
theorem fit_9 {w1 w2 w3 : Int32} (h0 : k_ref σ (nI 9) w1 w2 w3 0 = 0) : k_fit σ w2.toNatClampNeg = true ∧ k_fit σ w3.toNatClampNeg = true := by
  rw [show nI 9 = 9 from rfl, k_ref_9] at h0
  unfold r_X8_refusalOf_9 r_X8_ofBoard at h0
  cases e1 : k_fit σ w2.toNatClampNeg
  · rw [e1] at h0
    exfalso
    revert h0
    (repeat' split) <;> first | (intro z; exact absurd z (by decide)) | contradiction | (exfalso; simp_all)
  · cases e2 : k_fit σ w3.toNatClampNeg
    · rw [e1, e2] at h0
      exfalso
      revert h0
      (repeat' split) <;> first | (intro z; exact absurd z (by decide)) | contradiction | (exfalso; simp_all)
    · exact ⟨rfl, rfl⟩
theorem fit_dn (h : zP R C L K b V σ δ μ τ) {m : Nat} (hm1 : m < C) (f : k_fit σ m = true) : y_down μ m = false ∧ y_old μ m = false := by
  have nC := pm_nc h
  rw [zr_fit h.1 h.2.1 (by omega)] at f
  unfold y_fit at f
  simpa using f
set_option maxHeartbeats 1000000 in
theorem pf_9 (h : zP R C L K b V σ δ μ τ) (hK : K < 512) {l m r : Nat} (hl : l < 1000) (hm1 : m < C) (hr1 : r < C) : ∃ μ' τ', zP R C L (K + 1) b V (k_nS σ 9 (nI l) (nI m) (nI r) 0) (k_nD σ δ 9 (nI l) (nI m) (nI r) 0) μ' τ' ∧ RD 0 μ μ' ∧ (zans (k_ref σ (nI 9) (nI l) (nI m) (nI r) 0) (k_pr σ (nI 9) (nI l) (nI m) (nI r) 0) < 0 ∨ (¬ zans (k_ref σ (nI 9) (nI l) (nI m) (nI r) 0) (k_pr σ (nI 9) (nI l) (nI m) (nI r) 0) < 0 ∧ y_down μ' m = false ∧ y_old μ' r = false ∧ zA μ' 38 0 m = 97)) := by
  obtain ⟨hs, hm, hh, hk, hp⟩ := id h
  obtain ⟨q1, q2, q3, q4, q5, q6⟩ := h.nb
  have nC := pm_nc h
  by_cases h0 : k_ref σ (nI 9) (nI l) (nI m) (nI r) 0 = 0
  · obtain ⟨f1, f2⟩ := fit_9 h0
    rw [nI_clamp (by omega)] at f1 f2
    obtain ⟨d1, d2⟩ := fit_dn h hm1 f1
    obtain ⟨d3, d4⟩ := fit_dn h hr1 f2
    obtain ⟨-, l1, a, m1, r1, hl1, e1, e2, e3, ha, ea, e60, hm2, hr2, k1, k2, s1, s2, eg, es⟩ := (ok_9 hs hm _ _ _).2 h0
    have e2' : m1 = m := (nI_inj' (by omega) (by omega) e2).symm
    have e3' : r1 = r := (nI_inj' (by omega) (by omega) e3).symm
    rw [e2'] at k1 s1 eg es
    rw [e3'] at k2 s2 eg es
    have mr : m ≠ r := fun z => by rw [z, k2] at k1; exact absurd k1 (by decide)
    have g38 : ∀ d, zA (g_9b μ l1 a m r) 38 0 d = if d = m ∨ d = r then 97 else zA μ 38 0 d := fun d => by
      unfold g_9b
      by_cases d1 : d = r
      · simp [zI_pI, zI_pL, zI_pA, zL_pI, zL_pL, zL_pA, zA_pI, zA_pL, zA_pA, d1]
      · by_cases d2 : d = m <;> simp [zI_pI, zI_pL, zI_pA, zL_pI, zL_pL, zL_pA, zA_pI, zA_pL, zA_pA, d1, d2]
    obtain ⟨p1, p2, p3⟩ := p_rdy (ν := g_9b μ l1 a m r) (V' := V) hp rfl rfl (fun _ => rfl) (fun _ => rfl) (fun _ => rfl) (fun _ => rfl) (fun _ _ _ => rfl) (fun d _ => by
      rw [g38]
      by_cases e : d = m ∨ d = r
      · rw [if_pos e]
        refine Or.inr (Or.inr ⟨Or.inr rfl, y_rd.mpr (Or.inl ?_)⟩)
        rcases e with e | e <;> rw [e] <;> assumption
      · rw [if_neg e]; exact Or.inl rfl)
    have hp1 := pm_up hp (Nat.le_succ K) (Nat.le_refl b)
    obtain ⟨⟨nR, -, nL⟩, pk, pd, pc, -, pb, -, -, px, pf⟩ := hp1
    obtain ⟨τ', hP⟩ := pa_gen h hK (za_9 hm (by omega) (nI l) (nI m) (nI r)) h0 (by rw [(ok_9 hs hm _ _ _).1, if_pos h0, eg]) (ν := g_9b μ l1 a m r) (R' := R) (C' := C) (L' := L) (b' := b) (V' := V) ⟨⟨nR, nC, nL⟩, pk, pd, pc, p1, pb, p2, p3, px, pf⟩
    refine ⟨_, τ', hP, RD_rf, ?_⟩
    by_cases hz : zans (k_ref σ (nI 9) (nI l) (nI m) (nI r) 0) (k_pr σ (nI 9) (nI l) (nI m) (nI r) 0) < 0
    · exact Or.inl hz
    · refine Or.inr ⟨hz, d1, ?_, ?_⟩
      · have t1 : y_ready (zpI (g_9b μ l1 a m r) 838 0 0) r = true := y_rd.mpr (Or.inr (Or.inl (show zA (g_9b μ l1 a m r) 38 0 r = 97 by rw [g38, if_pos (Or.inr rfl)])))
        have t2 : y_ready μ r = true := y_rd.mpr (Or.inl s2)
        unfold y_old at d4 ⊢
        rw [t1]
        rw [t2] at d4
        exact d4
      · show zA (g_9b μ l1 a m r) 38 0 m = 97
        rw [g38, if_pos (Or.inl rfl)]
  · exact ⟨μ, τ, pa_no h h0, RD_rf, Or.inl (zans_lt h0)⟩
/-! 10: leave -/
set_option maxHeartbeats 1000000 in
theorem pf_10 (h : zP R C L K b V σ δ μ τ) (hK : K < 512) {l : Nat} (hl : l < 1000) : ∃ μ' τ', zP R C L (K + 1) b V (k_nS σ 10 (nI l) 0 0 0) (k_nD σ δ 10 (nI l) 0 0 0) μ' τ' ∧ RD 0 μ μ' ∧ ¬ zans (k_ref σ (nI 10) (nI l) 0 0 0) (k_pr σ (nI 10) (nI l) 0 0 0) < -77 := by
  obtain ⟨hs, hm, hh, hk, hp⟩ := id h
  obtain ⟨q1, q2, q3, q4, q5, q6⟩ := h.nb
  have nC := pm_nc h
  by_cases h0 : k_ref σ (nI 10) (nI l) 0 0 0 = 0
  · obtain ⟨-, l1, a, m, r, hl1, e1, ha, ea, e60, hm2, hr2, -, -, k1, k2, s1, s2, eg, es⟩ := (ok_10 hs hm _).2 h0
    have b842 := hm.1.2.2.2.1.2
    have e1' : l1 = l := (nI_inj' (by omega) (by omega) e1).symm
    rw [e1'] at hl1 ea e60
    have g38 : ∀ d, zA (g_10b μ l1 a m r) 38 0 d = if d = m ∨ d = r then 107 else zA μ 38 0 d := fun d => by
      unfold g_10b
      by_cases d1 : d = r
      · simp [zI_pI, zI_pL, zI_pA, zL_pI, zL_pL, zL_pA, zA_pI, zA_pL, zA_pA, d1]
      · by_cases d2 : d = m <;> simp [zI_pI, zI_pL, zI_pA, zL_pI, zL_pL, zL_pA, zA_pI, zA_pL, zA_pA, d1, d2]
    obtain ⟨p1, p2, p3⟩ := p_rdy (ν := g_10b μ l1 a m r) (V' := V) hp rfl rfl (fun _ => rfl) (fun _ => rfl) (fun _ => rfl) (fun _ => rfl) (fun _ _ _ => rfl) (fun d _ => by
      rw [g38]
      by_cases e : d = m ∨ d = r
      · rw [if_pos e]
        refine Or.inr (Or.inr ⟨Or.inl rfl, y_rd.mpr (Or.inr (Or.inl ?_))⟩)
        rcases e with e | e <;> rw [e] <;> assumption
      · rw [if_neg e]; exact Or.inl rfl)
    have hp1 := pm_up hp (Nat.le_succ K) (Nat.le_refl b)
    obtain ⟨⟨nR, -, nL⟩, pk, pd, pc, -, pb, -, -, px, pf⟩ := hp1
    obtain ⟨τ', hP⟩ := pa_gen h hK (za_10 hm (by omega) (nI l)) h0 (by rw [(ok_10 hs hm _).1, if_pos h0, eg]) (ν := g_10b μ l1 a m r) (R' := R) (C' := C) (L' := L) (b' := b) (V' := V) ⟨⟨nR, nC, nL⟩, pk, pd, pc, p1, pb, p2, p3, px, pf⟩
    refine ⟨_, τ', hP, RD_rf, ?_⟩
    rw [zans_0 h0, show nI 10 = 10 from rfl, k_pr_10]
    show ¬ r_X5_takeLastOff (zpI σ 512 0 (zI σ 512 0 + 1)) (nI l).toNatClampNeg < -77
    rw [r10_eq, nI_clamp (by omega)]
    show ¬ zI σ 400 l - 1 < -77
    rw [(hs.2.2.2.2.2.2.2.2.2.1 l hl1).1, ea]
    rcases (show a = 0 ∨ a = 1 ∨ a = 2 ∨ a = 3 ∨ a = 4 ∨ a = 5 by omega) with rfl | rfl | rfl | rfl | rfl | rfl <;> decide
  · refine ⟨μ, τ, pa_no h h0, RD_rf, ?_⟩
    rcases zr_10 σ (nI l) 0 0 0 with z | z | z
    · exact absurd z h0
    · rw [zans_1 z]; decide
    · rw [zans_3 z]; decide
/-! 11: jump -/
theorem jm_42 {l : Nat} {w1 w2 : Int32} (el : w1.toNatClampNeg = l) {n J : Nat} (hJ : J < 2 ^ 20) (h42 : ∀ d, d < n → ∃ j, j ≤ J ∧ zA μ 42 0 d = nI j) {a : Nat} (ha : a ≤ 6) (hin : ∀ q, q < a → (zA μ 61 0 (6 * l + q)).toNatClampNeg < n ∧ (zA μ 62 0 (6 * l + q)).toNatClampNeg < n) : ∀ k, k ≤ a → ∀ d, d < n → ∃ j, j ≤ J + 2 * k ∧ zA (y_jm μ w1 w2 k) 42 0 d = nI j
  | 0, _, d, hd => by
    rw [y_jm, zA_pA, if_neg (fun z => absurd z.1 (by decide))]
    exact h42 d hd
  | k + 1, hk, d, hd => by
    have ih := jm_42 (w2 := w2) el hJ h42 ha hin k (by omega)
    obtain ⟨i1, i2⟩ := hin k (by omega)
    obtain ⟨j1, hj1, ej1⟩ := ih _ i1
    obtain ⟨j2, hj2, ej2⟩ := ih _ i2
    obtain ⟨j3, hj3, ej3⟩ := ih d hd
    have A : ∀ w : Int32, w = 0 ∨ w = 1 → ∀ x, ∃ j, j ≤ J + 2 * (k + 1) ∧ zA (y_l2 (y_l2 (y_jm μ w1 w2 k) (zA μ 61 0 (6 * l + k)).toNatClampNeg 111 1) (zA μ 62 0 (6 * l + k)).toNatClampNeg x w) 42 0 d = nI j := by
      intro w hw x
      rw [l2_42, l2_42, l2_42, ej1, ej2, ej3]
      have up : ∀ j : Nat, j ≤ J + 2 * k + 1 → ∃ j', j' ≤ J + 2 * (k + 1) ∧ nI j + w = nI j' := fun j hj => by
        rcases hw with rfl | rfl
        · exact ⟨j, by omega, Int32.add_zero _⟩
        · exact ⟨j + 1, by omega, nI_1 j⟩
      by_cases c2 : d = (zA μ 62 0 (6 * l + k)).toNatClampNeg
      · rw [if_pos c2]
        split
        · rw [nI_1]; exact up (j1 + 1) (by omega)
        · exact up j2 (by omega)
      · rw [if_neg c2]
        split
        · exact ⟨j1 + 1, by omega, nI_1 j1⟩
        · exact ⟨j3, by omega, rfl⟩
    rw [y_jm_s, el]
    split
    · exact A 1 (Or.inr rfl) 111
    · exact A 0 (Or.inl rfl) 107
set_option maxHeartbeats 1000000 in
theorem pf_11 (h : zP R C L K b V σ δ μ τ) (hK : K < 512) {l : Nat} (hl : l < 1000) (w2 : Int32) : ∃ μ' τ', zP R C L (K + 1) b V (k_nS σ 11 (nI l) w2 0 0) (k_nD σ δ 11 (nI l) w2 0 0) μ' τ' ∧ RD 0 μ μ' ∧ (zans (k_ref σ (nI 11) (nI l) w2 0 0) (k_pr σ (nI 11) (nI l) w2 0 0) = -76 ∨ zans (k_ref σ (nI 11) (nI l) w2 0 0) (k_pr σ (nI 11) (nI l) w2 0 0) = -77 ∨ (0 < zans (k_ref σ (nI 11) (nI l) w2 0 0) (k_pr σ (nI 11) (nI l) w2 0 0) ∧ l < L ∧ zA μ' 60 0 l = 1)) := by
  obtain ⟨hs, hm, hh, hk, hp⟩ := id h
  obtain ⟨q1, q2, q3, q4, q5, q6⟩ := h.nb
  have nC := pm_nc h
  have nL := hp.1.2.2
  by_cases h0 : k_ref σ (nI 11) (nI l) w2 0 0 = 0
  · obtain ⟨-, l1, hl1, e1, e60⟩ := (ok_11 hs hm _ _).2 h0
    have b842 := hm.1.2.2.2.1.2
    have e1' : l1 = l := (nI_inj' (by omega) (by omega) e1).symm
    rw [e1'] at hl1 e60
    have el : (nI l).toNatClampNeg = l := nI_clamp (by omega)
    obtain ⟨a, ha, ea, -, hq⟩ := hm.2.2.2.2.2.2.1 l hl1
    have eg : g_11 μ (nI l) w2 = y_jm μ (nI l) w2 a := by
      unfold g_11
      rw [el, ea, nI_clamp (by omega)]
    have hin : ∀ q, q < a → (zA μ 61 0 (6 * l + q)).toNatClampNeg < zn μ 840 ∧ (zA μ 62 0 (6 * l + q)).toNatClampNeg < zn μ 840 := fun q hqa => by
      obtain ⟨m, r, hm1, hr1, x1, x2, -⟩ := hq q hqa
      rw [x1, x2, nI_clamp (by omega), nI_clamp (by omega)]
      exact ⟨hm1, hr1⟩
    have A := fun g i (hg : g ≠ 38 ∧ g ≠ 42 ∧ g ≠ 60) => y_jm_A μ (nI l) w2 g 0 i hg a
    have I := fun f => y_jm_I μ (nI l) w2 f 0 a
    have N : ∀ f, zn (y_jm μ (nI l) w2 a) f = zn μ f := fun f => by unfold zn; rw [I]
    obtain ⟨p1, p2, p3⟩ := p_rdy (ν := y_jm μ (nI l) w2 a) (V' := V) hp (N 840) (N 841) (fun i => A 55 i (by decide)) (fun i => A 39 i (by decide)) (fun i => A 52 i (by decide)) (fun i => A 53 i (by decide)) (fun _ _ _ => rfl) (fun d _ => by
      rcases jm_new (μ := μ) (w2 := w2) el d a with z | ⟨⟨q, hqa, z1⟩, z2⟩
      · exact Or.inl z
      · obtain ⟨m, r, hm1, hr1, x1, x2, -, -, x5⟩ := hq q hqa
        obtain ⟨y1, y2⟩ := x5 e60
        have rd : y_ready μ d = true := by
          rw [x1, x2, nI_clamp (by omega), nI_clamp (by omega)] at z1
          rcases z1 with z1 | z1 <;> rw [← z1, y_rd] <;> exact Or.inr (Or.inl (by assumption))
        rcases z2 with z2 | z2 | z2
        · exact Or.inr (Or.inr ⟨Or.inr z2, rd⟩)
        · exact Or.inr (Or.inr ⟨Or.inl z2, rd⟩)
        · exact Or.inr (Or.inl z2))
    have hp1 := pm_up hp (Nat.le_succ K) (Nat.le_refl b)
    obtain ⟨⟨nR, -, -⟩, pk, pd, pc, -, pb, -, -, px, pf⟩ := hp1
    have pc0 := hp.2.2.2.1
    have jb := jm_42 (μ := μ) (w2 := w2) el (n := zn μ 840) (J := 12 * K) (by omega) (fun d hd => (pc0 d hd).1) ha hin a (Nat.le_refl _)
    obtain ⟨τ', hP⟩ := pa_gen h hK (za_11 hm (by omega) (nI l) w2) h0 (by rw [(ok_11 hs hm _ _).1, if_pos h0, eg]) (ν := y_jm μ (nI l) w2 a) (R' := R) (C' := C) (L' := L) (b' := b) (V' := V) ⟨⟨(N 839).trans nR, (N 840).trans nC, (N 842).trans nL⟩, fun d hd => by
        rw [N] at hd
        rw [A 33 d (by decide)]
        exact pk d hd, by unfold pm_d; rw [I]; exact pd, fun d hd => by
        rw [N] at hd
        obtain ⟨j, hj, ej⟩ := jb d hd
        obtain ⟨-, c2, c3⟩ := pc d hd
        rw [A 43 d (by decide), A 44 d (by decide)]
        exact ⟨⟨j, by omega, ej⟩, c2, c3⟩, p1, fun i hi => by
        rw [N] at hi
        obtain ⟨a1, a2, a3⟩ := pb i hi
        rw [A 58 _ (by decide), A 58 _ (by decide), A 57 i (by decide), I]
        exact ⟨a1, a2, fun j hj => by rw [A 57 j (by decide)]; exact a3 j hj⟩, p2, p3, by unfold pm_x; rw [y_jm_L]; exact px, fun f hf => by
        rw [N] at hf
        rw [A 67 f (by decide)]
        exact pf f hf⟩
    refine ⟨_, τ', hP, ?_, Or.inr (Or.inr ⟨?_, by omega, ?_⟩)⟩
    · refine ⟨?_, ?_, fun i hi => ?_, ?_⟩
      · show zn μ 841 ≤ zn (y_jm μ (nI l) w2 a) 841
        rw [N]; omega
      · show zn (y_jm μ (nI l) w2 a) 841 ≤ zn μ 841 + 0
        rw [N]; omega
      · exact A 55 i (by decide)
      · show zL μ 847 0 ≤ zL (y_jm μ (nI l) w2 a) 847 0
        rw [y_jm_L]; exact Int64.le_refl _
    · rw [zans_0 h0, show nI 11 = 11 from rfl, k_pr_11]
      show 0 < zI σ 400 (nI l).toNatClampNeg
      rw [el]
      have e4 := (hs.2.2.2.2.2.2.2.2.2.1 l hl1).1
      have a0 : 0 < a := by
        rcases Nat.eq_zero_or_pos a with z | z
        · exfalso
          revert h0
          rw [show nI 11 = 11 from rfl, k_ref_11]
          unfold r_X8_refusalOf_11 r_X8_ofJump r_X8_ofLeave
          rw [el, e4, ea, z, if_pos (show k_has σ 507 (nI l) = true by rw [zr_has_l hs hm]; exact (kyhas (σ := μ) (g := 842) hm.1.2.2.2.1 (by decide) rfl).symm.trans (zhas_nI hm.1.2.2.2.1 (by decide) hl1)), if_pos (show nI 0 = 0 from rfl), if_neg (by decide)]
          decide
        · exact z
      rw [e4, ea]
      exact nI_gt0 a0 (by omega)
    · show zA (y_jm μ (nI l) w2 a) 60 0 l = 1
      rw [y_jm_60, el, if_pos rfl]
  · refine ⟨μ, τ, pa_no h h0, RD_rf, ?_⟩
    rcases zr_11 σ (nI l) w2 0 0 with z | z | z
    · exact absurd z h0
    · exact Or.inr (Or.inl (zans_1 z))
    · exact Or.inl (zans_3 z)
theorem pf_11b (h : zP R C L K b V σ δ μ τ) (hK : K < 512) {l : Nat} (hl : l < L) (w2 : Int32) (e60 : zA μ 60 0 l = 1) : zP R C L (K + 1) b V (k_nS σ 11 (nI l) w2 0 0) (k_nD σ δ 11 (nI l) w2 0 0) μ τ ∧ zans (k_ref σ (nI 11) (nI l) w2 0 0) (k_pr σ (nI 11) (nI l) w2 0 0) = -76 := by
  obtain ⟨hs, hm, hh, hk, hp⟩ := id h
  obtain ⟨q1, q2, q3, q4, q5, q6⟩ := h.nb
  have nL := hp.1.2.2
  have el : (nI l).toNatClampNeg = l := nI_clamp (by omega)
  have hl1 : l < zn μ 842 := by omega
  have h3 : k_ref σ (nI 11) (nI l) w2 0 0 = 3 := by
    rw [show nI 11 = 11 from rfl, k_ref_11]
    unfold r_X8_refusalOf_11 r_X8_ofJump
    have : r_X8_ofLeave σ (nI l) = 3 := by
      unfold r_X8_ofLeave
      rw [el, (hs.2.2.2.2.2.2.2.2.2.1 l hl1).2.1, e60, if_pos (show k_has σ 507 (nI l) = true by rw [zr_has_l hs hm]; exact (kyhas (σ := μ) (g := 842) hm.1.2.2.2.1 (by decide) rfl).symm.trans (zhas_nI hm.1.2.2.2.1 (by decide) hl1)), if_neg (show ¬ (1 : Int32) = 0 by decide)]
      split <;> rfl
    rw [this, if_neg (by decide)]
  exact ⟨pa_no h (by rw [h3]; decide), zans_3 h3⟩
end ZPQ
