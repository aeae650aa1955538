section ZAK
variable {σ μ τ : zS}
/-! several canopies change between rigged, aboard and open -/
def zsc (μ ν : zS) : Prop := ∀ d, zA ν 38 0 d = zA μ 38 0 d ∨ (d < zn μ 840 ∧ (zA μ 38 0 d = 97 ∨ zA μ 38 0 d = 107) ∧ (zA ν 38 0 d = 97 ∨ zA ν 38 0 d = 107 ∨ zA ν 38 0 d = 111))
theorem sc_112 {ν : zS} (h : zsc μ ν) (d : Nat) : zA ν 38 0 d = 112 ↔ zA μ 38 0 d = 112 := by
  rcases h d with e | ⟨-, e1, e2⟩
  · rw [e]
  · refine ⟨fun z => ?_, fun z => ?_⟩
    · rw [z] at e2; exact absurd e2 (by decide)
    · rw [z] at e1; exact absurd e1 (by decide)
theorem sc_104 {ν : zS} (h : zsc μ ν) (d : Nat) : zA ν 38 0 d = 104 ↔ zA μ 38 0 d = 104 := by
  rcases h d with e | ⟨-, e1, e2⟩
  · rw [e]
  · refine ⟨fun z => ?_, fun z => ?_⟩
    · rw [z] at e2; exact absurd e2 (by decide)
    · rw [z] at e1; exact absurd e1 (by decide)
theorem sc_s {ν : zS} (h : zsc μ ν) (ms : ym_s μ) (e2 : zn ν 840 = zn μ 840) : ym_s ν := by
  intro d hd
  rw [e2] at hd
  rcases h d with e | ⟨-, -, e3⟩
  · rw [e]; exact ms d hd
  · rcases e3 with e | e | e <;> rw [e] <;> simp
theorem sc_w {ν : zS} (h : zsc μ ν) (mw : ym_w μ) (e2 : zn ν 840 = zn μ 840) (e3 : ∀ k, k = 39 ∨ k = 40 ∨ k = 54 → ∀ i, zA ν k 0 i = zA μ k 0 i) : ym_w ν := by
  intro d hd z
  rw [e2] at hd
  rw [sc_112 h] at z
  have := mw d hd z
  simp only [e3 39 (by simp), e3 40 (by simp), e3 54 (by simp)]
  exact this
theorem sc_k {ν : zS} (h : zsc μ ν) (mk : ym_k μ) (e1 : zn ν 841 = zn μ 841) (e2 : zn ν 840 = zn μ 840) (e3 : ∀ i, zA ν 41 0 i = zA μ 41 0 i) : ym_k ν := by
  intro d hd
  rw [e2] at hd
  obtain ⟨k1, k2⟩ := mk d hd
  rw [e3, e1]
  refine ⟨k1, fun z => k2 ?_⟩
  rcases h d with e | ⟨-, e5, -⟩
  · unfold y_ready at z ⊢
    rw [e] at z
    exact z
  · unfold y_ready
    rcases e5 with e | e <;> rw [e] <;> rfl
theorem sc_b {ν : zS} (h : zsc μ ν) (mb : ym_b μ τ) (e1 : zn ν 841 = zn μ 841) (e2 : zn ν 840 = zn μ 840) (e3 : ∀ i, zA ν 40 0 i = zA μ 40 0 i) : 6 * zn ν 841 + zsmN (y_wk ν) (zn ν 840) ≤ zn τ 512 + 1 := by
  have : y_wk ν = y_wk μ := by
    funext d
    unfold y_wk
    rw [e3]
    by_cases z : zA μ 38 0 d = 112
    · rw [if_pos z, if_pos ((sc_112 h d).mpr z)]
    · rw [if_neg z, if_neg (fun y => z ((sc_112 h d).mp y))]
  rw [this, e1, e2]
  unfold ym_b at mb
  omega
theorem sc_zw {ν ρ : zS} (h : zsc μ ν) (hw : zs_w σ μ) (e2 : zn ν 840 = zn μ 840) (e3 : ∀ k, k = 39 ∨ k = 40 ∨ k = 54 → ∀ i, zA ν k 0 i = zA μ k 0 i) (e4 : ∀ k, k = 106 ∨ k = 107 → ∀ i, zI ρ k i = zI σ k i) (e5 : ∀ i j, zA ρ 12 i j = zA σ 12 i j) : zs_w ρ ν := by
  intro d hd
  rw [e2] at hd
  rw [sc_112 h]
  simp only [e3 39 (by simp), e3 40 (by simp), e3 54 (by simp), e4 106 (by simp), e4 107 (by simp), e5]
  exact hw d hd
theorem sc_zh {ν ρ : zS} (h : zsc μ ν) (hh : zs_h σ μ) (e2 : zn ν 840 = zn μ 840) (e3 : ∀ k, k = 52 ∨ k = 53 → ∀ i, zA ν k 0 i = zA μ k 0 i) (e4 : ∀ k, k = 118 ∨ k = 119 → ∀ i, zI ρ k i = zI σ k i) : zs_h ρ ν := by
  intro d hd
  rw [e2] at hd
  rw [sc_104 h]
  simp only [e3 52 (by simp), e3 53 (by simp), e4 118 (by simp), e4 119 (by simp)]
  exact hh d hd
theorem sc_z {ν : zS} (h : ym_z μ) (e1 : zn ν 840 = zn μ 840) (e2 : zn ν 842 = zn μ 842) (e3 : zn ν 843 = zn μ 843) (e4 : ∀ k, k = 38 ∨ k = 42 ∨ k = 43 ∨ k = 44 ∨ k = 48 ∨ k = 49 ∨ k = 50 ∨ k = 51 → ∀ d, zn μ 840 ≤ d → zA ν k 0 d = zA μ k 0 d) (e5 : ∀ k, k = 59 ∨ k = 60 → ∀ d, zn μ 842 ≤ d → zA ν k 0 d = zA μ k 0 d) (e6 : ∀ d, zA ν 68 0 d = zA μ 68 0 d) : ym_z ν := by
  refine ⟨fun d h1 h2 => ?_, fun d h1 h2 => ?_, fun d h1 h2 => ?_⟩
  · rw [e1] at h1
    rw [e4 38 (by simp) d h1, e4 42 (by simp) d h1, e4 43 (by simp) d h1, e4 44 (by simp) d h1, e4 48 (by simp) d h1, e4 49 (by simp) d h1, e4 50 (by simp) d h1, e4 51 (by simp) d h1]
    exact h.1 d h1 h2
  · rw [e2] at h1
    rw [e5 59 (by simp) d h1, e5 60 (by simp) d h1]
    exact h.2.1 d h1 h2
  · rw [e3] at h1
    rw [e6 d]
    exact h.2.2 d h1 h2
/-! 10: leave -/
def g_10b (μ : zS) (l a m r : Nat) : zS := zpA (zpA (zpA μ 59 0 l (nI a)) 38 0 m 107) 38 0 r 107
def s_10b (σ : zS) (l a m r : Nat) : zS := zpI (zpI (zpI σ 400 l (nI a)) 105 m 107) 105 r 107
def g_10 (μ : zS) (w1 : Int32) : zS := g_10b μ w1.toNatClampNeg ((zA μ 59 0 w1.toNatClampNeg).toNatClampNeg - 1) (zA μ 61 0 (6 * w1.toNatClampNeg + ((zA μ 59 0 w1.toNatClampNeg).toNatClampNeg - 1))).toNatClampNeg (zA μ 62 0 (6 * w1.toNatClampNeg + ((zA μ 59 0 w1.toNatClampNeg).toNatClampNeg - 1))).toNatClampNeg
theorem nI_m1 {a : Nat} : nI (a + 1) - 1 = nI a := by
  rw [← nI_1]
  exact Int32.add_sub_cancel _ _
theorem fx_10 {l a m r : Nat} (hl : l < 30) (ha : a < 6) (hm24 : m < 24) (hr24 : r < 24) (h1 : y_has μ 842 (nI l) = true) (ea : zA μ 59 0 l = nI (a + 1)) (e60 : zA μ 60 0 l = 0) (e1 : zA μ 61 0 (6 * l + a) = nI m) (e2 : zA μ 62 0 (6 * l + a) = nI r) : f_X10_leave μ (nI l) = zpI (g_10b μ l a m r) 838 0 0 ∧ r_X10_leave μ (nI l) = nI a := by
  have e6 : ((6 : Int32) * nI l + nI a).toNatClampNeg = 6 * l + a := by
    have := y6c (x := nI l) (vp_in_nI hl (by decide)) ha
    rw [this, nI_clamp (by omega)]
  have c1 : ¬ zA μ 59 0 l = 0 := by rw [ea]; exact nI_ne0 (by omega) (by omega)
  have c2 : ¬ zA μ 60 0 l = 1 := by rw [e60]; decide
  have es : zA μ 59 0 l - 1 = nI a := by rw [ea, nI_m1]
  have el : (nI l).toNatClampNeg = l := nI_clamp (by omega)
  have em : (nI m).toNatClampNeg = m := nI_clamp (by omega)
  have er : (nI r).toNatClampNeg = r := nI_clamp (by omega)
  unfold f_X10_leave r_X10_leave
  rw [if_pos h1, if_pos h1, el, if_neg c1, if_neg c1, if_pos c2, if_pos c2, es]
  unfold f_X10_tell r_X10_tell g_10b
  simp [zI_pI, zI_pL, zI_pA, zL_pI, zL_pL, zL_pA, zA_pI, zA_pL, zA_pA, e6, e1, e2, em, er]
theorem r10_eq (σ : zS) (l : Nat) : r_X5_takeLastOff σ l = zI σ 400 l - 1 := by
  unfold r_X5_takeLastOff
  rw [zI_pI, if_neg (fun z => absurd z.1 (by decide)), zI_pI, if_neg (fun z => absurd z.1 (by decide)), zI_pI, if_pos ⟨rfl, rfl⟩]
theorem f10_eq (σ : zS) {l a m r : Nat} (es : zI σ 400 l - 1 = nI a) (ac : (nI a).toNatClampNeg = a) (e1 : (zA σ 14 l a).toNatClampNeg = m) (e2 : (zA σ 15 l a).toNatClampNeg = r) : f_X5_takeLastOff σ l = s_10b σ l a m r := by
  unfold f_X5_takeLastOff s_10b
  simp [zI_pI, zI_pL, zI_pA, zL_pI, zL_pL, zL_pA, zA_pI, zA_pL, zA_pA, es, ac, e1, e2]
theorem ok_10 (h : zsim σ μ τ) (hm : ymod μ τ) (w1 : Int32) : (f_X10_leave μ w1 = if k_ref σ (nI 10) w1 0 0 0 = 0 then zpI (g_10 μ w1) 838 0 0 else zpI μ 838 0 (zkc [1, 3] (k_ref σ (nI 10) w1 0 0 0))) ∧ (k_ref σ (nI 10) w1 0 0 0 = 0 → r_X10_leave μ w1 = k_pr σ (nI 10) w1 0 0 0 ∧ ∃ l a m r, l < zn μ 842 ∧ w1 = nI l ∧ a < 6 ∧ zA μ 59 0 l = nI (a + 1) ∧ zA μ 60 0 l = 0 ∧ m < zn μ 840 ∧ r < zn μ 840 ∧ zA μ 61 0 (6 * l + a) = nI m ∧ zA μ 62 0 (6 * l + a) = nI r ∧ zA μ 33 0 m = 109 ∧ zA μ 33 0 r = 114 ∧ zA μ 38 0 m = 97 ∧ zA μ 38 0 r = 97 ∧ g_10 μ w1 = g_10b μ l a m r ∧ k_pf σ (nI 10) w1 0 0 0 = s_10b (zpI σ 512 0 (zI σ 512 0 + 1)) l a m r) := by
  obtain ⟨hn, hg, hmm, hc, he, hw, hh, hp, hr, hl, hf⟩ := id h
  obtain ⟨n1, n2, n3, n4, n5, n6, n7, n8, n9⟩ := id hn
  obtain ⟨mn, md, ms, mw, mk, mp, ml, mx, mf, mz, t0, tc, tf, tx, mb⟩ := id hm
  obtain ⟨b1, b2, b3, b4, b5⟩ := id mn
  rw [show nI 10 = 10 from rfl, k_ref_10, k_pr_10, k_pf_10]
  unfold r_X8_refusalOf_10 r_X8_ofLeave
  rw [zr_has_l h hm]
  cases h1 : y_has μ 842 w1
  · refine ⟨?_, fun z => by simp at z⟩
    unfold f_X10_leave
    rw [h1]
    rfl
  · obtain ⟨l, hl1, rfl⟩ := yhas_lt b4 (by decide) h1
    have hb2 := b2.2
    have hb4 := b4.2
    have el : (nI l).toNatClampNeg = l := nI_clamp (by omega)
    obtain ⟨z1, z2, z3⟩ := hl l hl1
    obtain ⟨a, ha, ea, e60, hq⟩ := ml l hl1
    rw [el, z1, z2, if_pos rfl]
    by_cases c1 : zA μ 59 0 l = 0
    · rw [if_pos c1]
      refine ⟨?_, fun z => absurd z (by decide)⟩
      unfold f_X10_leave
      rw [h1, el, if_pos rfl, if_pos c1, if_neg (by decide)]
      rfl
    · rw [if_neg c1]
      obtain ⟨a, rfl⟩ : ∃ b, a = b + 1 := by
        cases a with
        | zero => exact absurd (ea.trans (show nI 0 = 0 by decide)) c1
        | succ b => exact ⟨b, rfl⟩
      by_cases c2 : zA μ 60 0 l = 0
      · obtain ⟨m, r, hm1, hr1, e1, e2, q1, q2, q3⟩ := hq a (by omega)
        obtain ⟨q4, q5⟩ := q3 c2
        obtain ⟨x1, x2⟩ := fx_10 (by omega) (by omega) (by omega) (by omega) h1 ea c2 e1 e2
        have em : (nI m).toNatClampNeg = m := nI_clamp (by omega)
        have er : (nI r).toNatClampNeg = r := nI_clamp (by omega)
        have ea1 : (zA μ 59 0 l).toNatClampNeg - 1 = a := by rw [ea, nI_clamp (by omega)]; exact Nat.add_sub_cancel _ _
        have eg : g_10 μ (nI l) = g_10b μ l a m r := by
          unfold g_10
          rw [el, ea1, e1, e2, em, er]
        have es : zI σ 400 l - 1 = nI a := by rw [z1, ea, nI_m1]
        have z4 := z3 a (by rw [ea, nI_clamp (by omega)]; omega)
        have ac : (nI a).toNatClampNeg = a := nI_clamp (by omega)
        rw [if_pos c2, if_pos rfl, x1, x2, eg]
        unfold f_X5_perform_10 r_X5_perform_10
        rw [el]
        refine ⟨rfl, fun _ => ⟨?_, l, a, m, r, hl1, rfl, by omega, ea, c2, hm1, hr1, e1, e2, q1, q2, q4, q5, rfl, ?_⟩⟩
        · rw [r10_eq]
          exact es.symm
        · exact f10_eq _ es ac ((congrArg Int32.toNatClampNeg (z4.1.trans e1)).trans em) ((congrArg Int32.toNatClampNeg (z4.2.trans e2)).trans er)
      · have c3 : zA μ 60 0 l = 1 := e60.resolve_left c2
        rw [if_neg c2]
        refine ⟨?_, fun z => absurd z (by decide)⟩
        unfold f_X10_leave
        rw [h1, el, if_pos rfl, if_neg c1, if_neg (not_not_intro c3), if_neg (by decide)]
        rfl
theorem sm_10 (h : zsim σ μ τ) (hm : ymod μ τ) (hN : zn τ 512 < 512) {w1 : Int32} (h0 : k_ref σ (nI 10) w1 0 0 0 = 0) : zsim (k_pf σ (nI 10) w1 0 0 0) (g_10 μ w1) (zt1 τ) ∧ ymod (g_10 μ w1) (zt1 τ) := by
  obtain ⟨-, l, a, m, r, hl1, rfl, ha, ea, e60, hm1, hr1, e1, e2, q1, q2, q4, q5, eg, es⟩ := (ok_10 h hm w1).2 h0
  obtain ⟨hn, hg, hmm, hc, he, hw, hh, hp, hr, hl, hf⟩ := id h
  obtain ⟨n1, n2, n3, n4, n5, n6, n7, n8, n9⟩ := id hn
  obtain ⟨mn, md, ms, mw, mk, mp, ml, mx, mf, mz, t0, tc, tf, tx, mb⟩ := id hm
  obtain ⟨b1, b2, b3, b4, b5⟩ := id mn
  have hb2 := b2.2
  have hb4 := b4.2
  rw [eg, es]
  have g38 : ∀ d, zA (g_10b μ l a m r) 38 0 d = if d = m ∨ d = r then 107 else zA μ 38 0 d := fun d => by
    unfold g_10b
    by_cases d1 : d = r
    · simp [zI_pI, zI_pL, zI_pA, zL_pI, zL_pL, zL_pA, zA_pI, zA_pL, zA_pA, d1]
    · by_cases d2 : d = m <;> simp [zI_pI, zI_pL, zI_pA, zL_pI, zL_pL, zL_pA, zA_pI, zA_pL, zA_pA, d1, d2]
  have gk : ∀ k, k ≠ 38 → k ≠ 59 → ∀ d, zA (g_10b μ l a m r) k 0 d = zA μ k 0 d := fun k h1 h2 d => by unfold g_10b; simp [zI_pI, zI_pL, zI_pA, zL_pI, zL_pL, zL_pA, zA_pI, zA_pL, zA_pA, h1, h2]
  have g59 : zA (g_10b μ l a m r) 59 0 l = nI a := by unfold g_10b; simp [zI_pI, zI_pL, zI_pA, zL_pI, zL_pL, zL_pA, zA_pI, zA_pL, zA_pA]
  have g59o : ∀ d, d ≠ l → zA (g_10b μ l a m r) 59 0 d = zA μ 59 0 d := fun d hd => by unfold g_10b; simp [zI_pI, zI_pL, zI_pA, zL_pI, zL_pL, zL_pA, zA_pI, zA_pL, zA_pA, hd]
  have hsc : zsc μ (g_10b μ l a m r) := fun d => by
    rw [g38]
    by_cases d1 : d = m ∨ d = r
    · rw [if_pos d1]
      rcases d1 with rfl | rfl
      · exact Or.inr ⟨hm1, Or.inl q4, by simp⟩
      · exact Or.inr ⟨hr1, Or.inl q5, by simp⟩
    · rw [if_neg d1]; exact Or.inl rfl
  have hla : ∀ d, d < zn μ 842 → (zA (g_10b μ l a m r) 59 0 d).toNatClampNeg ≤ (zA μ 59 0 d).toNatClampNeg := fun d hd => by
    by_cases e : d = l
    · subst e; rw [g59, ea, nI_clamp (by omega), nI_clamp (by omega)]; omega
    · rw [g59o d e]; exact Nat.le_refl _
  refine ⟨⟨⟨n1, n2, n3, n4, n5, n6, n7, n8, ?_⟩, hg, hmm, fun d hd => ?_, he, sc_zw hsc hw rfl (fun k hk i => by rcases hk with rfl | rfl | rfl <;> exact gk _ (by decide) (by decide) i) (fun k hk i => by rcases hk with rfl | rfl <;> rfl) (fun i j => rfl), sc_zh hsc hh rfl (fun k hk i => by rcases hk with rfl | rfl <;> exact gk _ (by decide) (by decide) i) (fun k hk i => by rcases hk with rfl | rfl <;> rfl), hp, hr, fun d hd => ?_, hf⟩, ?_⟩
  · show zI σ 512 0 + 1 = zI τ 512 0 + 1
    rw [n9]
  · have hd : d < zn μ 840 := hd
    have := hc d hd
    rw [g38, gk 41 (by decide) (by decide), gk 42 (by decide) (by decide), gk 43 (by decide) (by decide), gk 44 (by decide) (by decide)]
    unfold s_10b zt1
    by_cases d1 : d = r
    · simp [zI_pI, zI_pL, zI_pA, zL_pI, zL_pL, zL_pA, zA_pI, zA_pL, zA_pA, d1, this]
      subst d1
      simp [this]
    · by_cases d2 : d = m
      · subst d2
        simp [zI_pI, zI_pL, zI_pA, zL_pI, zL_pL, zL_pA, zA_pI, zA_pL, zA_pA, d1, this]
      · simp [zI_pI, zI_pL, zI_pA, zL_pI, zL_pL, zL_pA, zA_pI, zA_pL, zA_pA, d1, d2, this]
  · have hd : d < zn μ 842 := hd
    obtain ⟨z1, z2, z3⟩ := hl d hd
    have hle := hla d hd
    rw [gk 60 (by decide) (by decide)]
    refine ⟨?_, z2, fun q hq => ?_⟩
    · unfold s_10b
      by_cases e : d = l
      · subst e; rw [g59]; simp [zI_pI, zI_pL, zI_pA, zL_pI, zL_pL, zL_pA, zA_pI, zA_pL, zA_pA]
      · rw [g59o d e]; simp [zI_pI, zI_pL, zI_pA, zL_pI, zL_pL, zL_pA, zA_pI, zA_pL, zA_pA, e, z1]
    · rw [gk 61 (by decide) (by decide), gk 62 (by decide) (by decide)]
      exact z3 q (by omega)
  · refine ymod_tick hm hN mn md (sc_s hsc ms rfl) (sc_w hsc mw rfl (fun k hk i => by rcases hk with rfl | rfl | rfl <;> exact gk _ (by decide) (by decide) i)) (sc_k hsc mk rfl rfl (fun i => rfl)) mp (fun d hd => ?_) (fun d d' hd hd' z z' q q' hq hq' e => ?_) mf (sc_z mz rfl rfl rfl (fun k hk d hd => ?_) (fun k hk d hd => ?_) (fun d => rfl)) rfl rfl (fun k hk c => by rcases hk with rfl | rfl | rfl | rfl | rfl | rfl | rfl | rfl | rfl <;> rfl) rfl (sc_b hsc mb rfl rfl (fun i => gk 40 (by decide) (by decide) i))
    · have hd : d < zn μ 842 := hd
      obtain ⟨b, hb, eb, f60, hq⟩ := ml d hd
      have hx := mx d l hd hl1
      have key : ∀ q, q < b → (d = l → q < a) → ∃ m' r', m' < zn μ 840 ∧ r' < zn μ 840 ∧ zA μ 61 0 (6 * d + q) = nI m' ∧ zA μ 62 0 (6 * d + q) = nI r' ∧ zA μ 33 0 m' = 109 ∧ zA μ 33 0 r' = 114 ∧ (zA μ 60 0 d = 0 → zA (g_10b μ l a m r) 38 0 m' = 97 ∧ zA (g_10b μ l a m r) 38 0 r' = 97) := fun q hqb hqa => by
        obtain ⟨m', r', p1, p2, p3, p4, p5, p6, p7⟩ := hq q hqb
        refine ⟨m', r', p1, p2, p3, p4, p5, p6, fun z => ?_⟩
        obtain ⟨p8, p9⟩ := p7 z
        have hx1 := hx z e60 q a (by rw [eb, nI_clamp (by omega)]; exact hqb) (by rw [ea, nI_clamp (by omega)]; omega)
        have no : ¬ (zA μ 61 0 (6 * d + q) = zA μ 61 0 (6 * l + a) ∨ zA μ 62 0 (6 * d + q) = zA μ 62 0 (6 * l + a)) := fun y => by
          obtain ⟨y1, y2⟩ := hx1 y
          have := hqa y1
          omega
        rw [p3, p4, e1, e2] at no
        have nm : m' ≠ m := fun y => no (Or.inl (by rw [y]))
        have nr : r' ≠ r := fun y => no (Or.inr (by rw [y]))
        have nmr : m' ≠ r := fun y => by rw [y, q2] at p5; exact absurd p5 (by decide)
        have nrm : r' ≠ m := fun y => by rw [y, q1] at p6; exact absurd p6 (by decide)
        rw [g38, g38, if_neg (fun y => y.elim nm nmr), if_neg (fun y => y.elim nrm nr)]
        exact ⟨p8, p9⟩
      rw [gk 60 (by decide) (by decide)]
      simp only [gk 61 (by decide) (by decide), gk 62 (by decide) (by decide), gk 33 (by decide) (by decide)]
      by_cases e : d = l
      · subst e
        have hab : a < b := by
          have : nI b = nI (a + 1) := by rw [← eb, ea]
          have := congrArg Int32.toNatClampNeg this
          rw [nI_clamp (by omega), nI_clamp (by omega)] at this
          omega
        exact ⟨a, by omega, g59, f60, fun q hqa => key q (by omega) (fun _ => hqa)⟩
      · exact ⟨b, hb, by rw [g59o d e]; exact eb, f60, fun q hqb => key q hqb (fun y => absurd y e)⟩
    · have hd : d < zn μ 842 := hd
      have hd' : d' < zn μ 842 := hd'
      have l1 := hla d hd
      have l2 := hla d' hd'
      rw [gk 60 (by decide) (by decide)] at z z'
      rw [gk 61 (by decide) (by decide), gk 62 (by decide) (by decide), gk 61 (by decide) (by decide), gk 62 (by decide) (by decide)] at e
      exact mx d d' hd hd' z z' q q' (by omega) (by omega) e
    · by_cases k38 : k = 38
      · subst k38
        rw [g38, if_neg (by omega)]
      · exact gk k k38 (by omega) d
    · by_cases k59 : k = 59
      · subst k59
        exact g59o d (by omega)
      · exact gk k (by omega) k59 d
end ZAK
