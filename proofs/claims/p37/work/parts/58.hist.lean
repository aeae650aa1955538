section ZAQ
variable {σ ρ μ τ δ : zS}
/-! TWO LOFTS THAT FIT ONE MODEL ARE ALIKE -/
theorem zk_like (h : zsim σ μ τ) (h' : zsim ρ μ τ) (hm : ymod μ τ) : lkA σ ρ := by
  obtain ⟨hn, hg, hmm, hc, he, hw, hh, hp, hr, hl, hf⟩ := id h
  obtain ⟨n1, n2, n3, n4, n5, n6, n7, n8, n9⟩ := id hn
  obtain ⟨mn, md, ms, mw, mk, mp, ml, mx, mf, mz, t0, tc, tf, tx, mb⟩ := id hm
  obtain ⟨b1, b2, b3, b4, b5⟩ := id mn
  obtain ⟨hn', hg', hmm', hc', he', hw', hh', hp', hr', hl', hf'⟩ := id h'
  obtain ⟨m1, m2, m3, m4, m5, m6, m7, m8, m9⟩ := id hn'
  have hb2 := b2.2
  refine ⟨⟨n6.trans m6.symm, n7.trans m7.symm, n8.trans m8.symm, n9.trans m9.symm⟩, ⟨n1.trans m1.symm, fun q hq => ?_⟩, ⟨n2.trans m2.symm, fun q hq => ?_⟩, ⟨n4.trans m4.symm, fun q hq => ?_⟩, ⟨n5.trans m5.symm, fun q hq => ?_⟩, ⟨n3.trans m3.symm, fun q hq => ?_, fun q hq => ?_⟩⟩
  · rw [zn_eq n1] at hq
    exact ⟨(hg q hq).1.trans (hg' q hq).1.symm, (hg q hq).2.trans (hg' q hq).2.symm⟩
  · rw [zn_eq n2] at hq
    obtain ⟨a1, a2, a3, a4, a5⟩ := hmm q hq
    obtain ⟨b1', b2', b3', b4', b5'⟩ := hmm' q hq
    obtain ⟨c1, c2, c3, c4, c5, c6, c7⟩ := hc q hq
    obtain ⟨d1, d2, d3, d4, d5, d6, d7⟩ := hc' q hq
    obtain ⟨e1, e2, e3⟩ := he q hq
    obtain ⟨f1, f2, f3⟩ := he' q hq
    have g1 := hw q hq
    have g2 := hw' q hq
    have i1 := hh q hq
    have i2 := hh' q hq
    have hH : zI σ 118 q = zI ρ 118 q ∧ zI σ 119 q = zI ρ 119 q := by
      by_cases s : zA μ 38 0 q = 104
      · exact ⟨(i1.1 s).1.trans (i2.1 s).1.symm, (i1.1 s).2.trans (i2.1 s).2.symm⟩
      · exact ⟨(i1.2 s).1.trans (i2.2 s).1.symm, (i1.2 s).2.trans (i2.2 s).2.symm⟩
    have hW : (zI σ 106 q = zI ρ 106 q ∧ zI σ 107 q = zI ρ 107 q ∧ ∀ j, j < 5 → j < (zI σ 107 q).toNatClampNeg → zA σ 12 q j = zA ρ 12 q j) ∧ vp_in (zI σ 107 q) 6 := by
      by_cases s : zA μ 38 0 q = 112
      · obtain ⟨x1, x2, x3⟩ := g1.1 s
        obtain ⟨y1, y2, y3⟩ := g2.1 s
        obtain ⟨-, k, hk, ek, -⟩ := mw q hq s
        refine ⟨⟨x1.trans y1.symm, x2.trans y2.symm, fun j _ hj => ?_⟩, ?_⟩
        · rw [x2] at hj
          exact (x3 j hj).trans (y3 j hj).symm
        · rw [x2, ek]
          exact vp_in_nI (by omega) (by decide)
      · obtain ⟨x1, x2⟩ := g1.2 s
        obtain ⟨y1, y2⟩ := g2.2 s
        refine ⟨⟨x1.trans y1.symm, x2.trans y2.symm, fun j _ hj => ?_⟩, ?_⟩
        · rw [x2] at hj
          exact absurd hj (Nat.not_lt_zero _)
        · rw [x2]
          exact vp_in_nI (n := 0) (N := 6) (by decide) (by decide)
    obtain ⟨⟨w1, w2, w3⟩, w4⟩ := hW
    refine ⟨⟨⟨a1.trans b1'.symm, a2.trans b2'.symm, a3.trans b3'.symm, a4.trans b4'.symm, a5.trans b5'.symm⟩, ⟨c1.trans d1.symm, w1, w2, e1.trans f1.symm, c2.trans d2.symm, e2.trans f2.symm, e3.trans f3.symm, w3⟩, ⟨c3.trans d3.symm, c4.trans d4.symm, c5.trans d5.symm, c6.trans d6.symm, c7.trans d7.symm, hH.1, hH.2⟩⟩, w4, ?_⟩
    rw [zr_down h hm hq, zr_down h' hm hq]
  · rw [zn_eq n4] at hq
    obtain ⟨a1, a2, a3⟩ := hl q hq
    obtain ⟨c1, c2, c3⟩ := hl' q hq
    obtain ⟨a, ha, ea, -⟩ := ml q hq
    refine ⟨⟨a1.trans c1.symm, a2.trans c2.symm, fun j _ hj => ?_⟩, ?_⟩
    · rw [a1] at hj
      exact ⟨(a3 j hj).1.trans (c3 j hj).1.symm, (a3 j hj).2.trans (c3 j hj).2.symm⟩
    · rw [a1, ea]
      exact vp_in_nI (by omega) (by decide)
  · rw [zn_eq n5] at hq
    obtain ⟨a1, a2, a3, a4, a5, a6, a7⟩ := hf q hq
    obtain ⟨c1, c2, c3, c4, c5, c6, c7⟩ := hf' q hq
    exact ⟨a1.trans c1.symm, a2.trans c2.symm, a3.trans c3.symm, a4.trans c4.symm, a5.trans c5.symm, a6.trans c6.symm, a7.trans c7.symm⟩
  · rw [zn_eq n3] at hq
    obtain ⟨a1, a2, a3⟩ := hp q hq
    obtain ⟨c1, c2, c3⟩ := hp' q hq
    exact ⟨a1.trans c1.symm, a2.trans c2.symm, a3.trans c3.symm⟩
  · rw [zn_eq n3] at hq
    exact (hr q hq).trans (hr' q hq).symm
/-! THE DIARY: replayed from a cleared loft it fits the model -/
def zhist (δ μ τ : zS) : Prop := zbd δ 200 512 ∧ zn δ 200 = zn τ 512 ∧ (∀ k, k < zn δ 200 → ∃ n, n < 20 ∧ k_row δ k 0 = nI n) ∧ ∀ ρ, (∀ k, k ≤ zn δ 200 → zV (k_rep ρ δ k)) ∧ (∀ k, k < zn δ 200 → k_rref δ (k_rep ρ δ k) k = 0) ∧ zsim (k_rep ρ δ (zn δ 200)) μ τ
theorem dwr (hb : zbd δ 200 512) (hN : zn δ 200 < 512) (w0 w1 w2 w3 w4 : Int32) : zI (f_X2_write δ w0 w1 w2 w3 w4) 200 0 = nI (zn δ 200 + 1) ∧ (∀ q j, q < zn δ 200 → j < 5 → k_row (f_X2_write δ w0 w1 w2 w3 w4) q j = k_row δ q j) ∧ k_row (f_X2_write δ w0 w1 w2 w3 w4) (zn δ 200) 0 = w0 ∧ k_row (f_X2_write δ w0 w1 w2 w3 w4) (zn δ 200) 1 = w1 ∧ k_row (f_X2_write δ w0 w1 w2 w3 w4) (zn δ 200) 2 = w2 ∧ k_row (f_X2_write δ w0 w1 w2 w3 w4) (zn δ 200) 3 = w3 ∧ k_row (f_X2_write δ w0 w1 w2 w3 w4) (zn δ 200) 4 = w4 := by
  have hfull : k_full δ = false := by
    unfold k_full
    rw [hb.1, show (512 : Int32) = nI 512 from rfl, decide_eq_true ((nI_ltI (by omega) (by omega)).mpr hN)]
    rfl
  have e0 : zI δ 200 0 = nI (zn δ 200) := hb.1
  generalize zn δ 200 = N at *
  have m5 : zI δ 200 0 * 5 = nI (N * 5) := by rw [e0, show (5 : Int32) = nI 5 from rfl, pk_mul]
  have i0 : (zI δ 200 0 * 5).toNatClampNeg = N * 5 := by rw [m5, nI_clamp (by omega)]
  have i1 : (zI δ 200 0 * 5 + 1).toNatClampNeg = N * 5 + 1 := by rw [m5, nI_1, nI_clamp (by omega)]
  have i2 : (zI δ 200 0 * 5 + 2).toNatClampNeg = N * 5 + 2 := by rw [m5, show (2 : Int32) = nI 2 from rfl, nI_add, nI_clamp (by omega)]
  have i3 : (zI δ 200 0 * 5 + 3).toNatClampNeg = N * 5 + 3 := by rw [m5, show (3 : Int32) = nI 3 from rfl, nI_add, nI_clamp (by omega)]
  have i4 : (zI δ 200 0 * 5 + 4).toNatClampNeg = N * 5 + 4 := by rw [m5, show (4 : Int32) = nI 4 from rfl, nI_add, nI_clamp (by omega)]
  have ew : f_X2_write δ w0 w1 w2 w3 w4 = zpI (zpA (zpA (zpA (zpA (zpA δ 21 0 (N * 5) w0) 21 0 (N * 5 + 1) w1) 21 0 (N * 5 + 2) w2) 21 0 (N * 5 + 3) w3) 21 0 (N * 5 + 4) w4) 200 0 (nI (N + 1)) := by
    unfold f_X2_write
    rw [if_pos hfull, i0, i1, i2, i3, i4, zI_pA, zI_pA, zI_pA, zI_pA, zI_pA, e0, nI_1]
  rw [ew]
  refine ⟨by rw [zI_pI, if_pos ⟨rfl, rfl⟩], fun q j hq hj => ?_, ?_, ?_, ?_, ?_, ?_⟩
  · unfold k_row
    have d0 : q * 5 + j ≠ N * 5 := by omega
    have d1 : q * 5 + j ≠ N * 5 + 1 := by omega
    have d2 : q * 5 + j ≠ N * 5 + 2 := by omega
    have d3 : q * 5 + j ≠ N * 5 + 3 := by omega
    have d4 : q * 5 + j ≠ N * 5 + 4 := by omega
    simp [zI_pI, zI_pL, zI_pA, zL_pI, zL_pL, zL_pA, zA_pI, zA_pL, zA_pA, d0, d1, d2, d3, d4]
  · unfold k_row; simp [zI_pI, zI_pL, zI_pA, zL_pI, zL_pL, zL_pA, zA_pI, zA_pL, zA_pA]
  · unfold k_row; simp [zI_pI, zI_pL, zI_pA, zL_pI, zL_pL, zL_pA, zA_pI, zA_pL, zA_pA]
  · unfold k_row; simp [zI_pI, zI_pL, zI_pA, zL_pI, zL_pL, zL_pA, zA_pI, zA_pL, zA_pA]
  · unfold k_row; simp [zI_pI, zI_pL, zI_pA, zL_pI, zL_pL, zL_pA, zA_pI, zA_pL, zA_pA]
  · unfold k_row; simp [zI_pI, zI_pL, zI_pA, zL_pI, zL_pL, zL_pA, zA_pI, zA_pL, zA_pA]
theorem krep_congr {δ' : zS} : ∀ k, (∀ q j, q < k → j < 5 → k_row δ' q j = k_row δ q j) → k_rep ρ δ' k = k_rep ρ δ k
  | 0, _ => rfl
  | k + 1, h => by
    rw [k_rep, k_rep, krep_congr k (fun q j hq hj => h q j (by omega) hj)]
    unfold k_rpf
    rw [h k 0 (by omega) (by decide), h k 1 (by omega) (by decide), h k 2 (by omega) (by decide), h k 3 (by omega) (by decide), h k 4 (by omega) (by decide)]
theorem krref_congr {δ' : zS} {k : Nat} (h : ∀ j, j < 5 → k_row δ' k j = k_row δ k j) (σ : zS) : k_rref δ' σ k = k_rref δ σ k := by
  unfold k_rref
  rw [h 0 (by decide), h 1 (by decide), h 2 (by decide), h 3 (by decide), h 4 (by decide)]
theorem hist_step (hH : zhist δ μ τ) (hN : zn τ 512 < 512) {n : Nat} (hn20 : n < 20) {w1 w2 w3 w4 : Int32} {ν τ' : zS} (e : zn τ' 512 = zn τ 512 + 1) (hall : ∀ σ, zsim σ μ τ → k_ref σ (nI n) w1 w2 w3 w4 = 0 ∧ zsim (k_pf σ (nI n) w1 w2 w3 w4) ν τ') (hν : ymod ν τ') : zhist (f_X2_write δ (nI n) w1 w2 w3 w4) ν τ' := by
  obtain ⟨hb, hnn, hrow, hrep⟩ := hH
  obtain ⟨q0, q1, r0, r1, r2, r3, r4⟩ := dwr hb (by omega) (nI n) w1 w2 w3 w4
  have zn1 : zn (f_X2_write δ (nI n) w1 w2 w3 w4) 200 = zn δ 200 + 1 := by
    show (zI (f_X2_write δ (nI n) w1 w2 w3 w4) 200 0).toNatClampNeg = zn δ 200 + 1
    rw [q0, nI_clamp (by omega)]
  generalize f_X2_write δ (nI n) w1 w2 w3 w4 = δ' at *
  refine ⟨⟨by rw [q0, zn1], by omega⟩, by omega, fun k hk => ?_, fun ρ => ?_⟩
  · rw [zn1] at hk
    by_cases ek : k = zn δ 200
    · exact ⟨n, hn20, by rw [ek, r0]⟩
    · rw [q1 k 0 (by omega) (by decide)]
      exact hrow k (by omega)
  · obtain ⟨x1, x2, x3⟩ := hrep ρ
    have er : ∀ k, k ≤ zn δ 200 → k_rep ρ δ' k = k_rep ρ δ k := fun k hk => krep_congr k (fun q j hq hj => q1 q j (by omega) hj)
    obtain ⟨y1, y2⟩ := hall _ x3
    have e1 : k_rep ρ δ' (zn δ 200 + 1) = k_pf (k_rep ρ δ (zn δ 200)) (nI n) w1 w2 w3 w4 := by
      rw [k_rep, er _ (Nat.le_refl _)]
      unfold k_rpf
      rw [r0, r1, r2, r3, r4]
    rw [zn1]
    refine ⟨fun k hk => ?_, fun k hk => ?_, by rw [e1]; exact y2⟩
    · by_cases ek : k = zn δ 200 + 1
      · rw [ek, e1]; exact y2.V hν
      · rw [er k (by omega)]; exact x1 k (by omega)
    · by_cases ek : k = zn δ 200
      · rw [ek, er _ (Nat.le_refl _)]
        unfold k_rref
        rw [r0, r1, r2, r3, r4]
        exact y1
      · rw [er k (by omega), krref_congr (fun j hj => q1 k j (by omega) hj)]
        exact x2 k (by omega)
/-! AN ACT, AS THE LAW SEES IT -/
def zact (n : Nat) (w1 w2 w3 w4 : Int32) (L : List Nat) (F : zS) (P : Int32 → Prop) (μ τ : zS) : Prop := n < 20 ∧ L.length < 10 ∧ ∃ ν τ', zn τ' 512 = zn τ 512 + 1 ∧ ∀ σ, zsim σ μ τ → F = (if k_ref σ (nI n) w1 w2 w3 w4 = 0 then zpI ν 838 0 0 else zpI μ 838 0 (zkc L (k_ref σ (nI n) w1 w2 w3 w4))) ∧ (k_ref σ (nI n) w1 w2 w3 w4 = 0 → P (k_pr σ (nI n) w1 w2 w3 w4) ∧ zsim (k_pf σ (nI n) w1 w2 w3 w4) ν τ' ∧ ymod ν τ')
theorem zkc_ne {L : List Nat} {r : Nat} (hL : L.length < 10) (hr : ¬ r = 0) : ¬ zkc L r = 0 := by
  unfold zkc
  rw [if_neg hr]
  have := List.idxOf_le_length (a := r) (l := L)
  exact nI_ne0 (by omega) (by omega)
theorem act_post {n : Nat} {w1 w2 w3 w4 : Int32} {L : List Nat} {F : zS} {P : Int32 → Prop} (za : zact n w1 w2 w3 w4 L F P μ τ) (h : zsim σ μ τ) (hm : ymod μ τ) (hH : zhist δ μ τ) (hN : zn τ 512 < 512) : zI F 838 0 = zkc L (k_ref σ (nI n) w1 w2 w3 w4) ∧ (k_ref σ (nI n) w1 w2 w3 w4 = 0 → P (k_pr σ (nI n) w1 w2 w3 w4)) ∧ ∃ τ', zn τ' 512 ≤ zn τ 512 + 1 ∧ zsim (k_nS σ n w1 w2 w3 w4) F τ' ∧ ymod F τ' ∧ zhist (k_nD σ δ n w1 w2 w3 w4) F τ' := by
  obtain ⟨hn20, hL, ν, τ', e, hall⟩ := za
  obtain ⟨f1, f2⟩ := hall σ h
  unfold k_nS k_nD
  by_cases c : k_ref σ (nI n) w1 w2 w3 w4 = 0
  · rw [if_pos c] at f1
    obtain ⟨p1, p2, p3⟩ := f2 c
    rw [if_pos c, if_pos c, c]
    have e838 : zI F 838 0 = 0 := by rw [f1, zI_pI, if_pos ⟨rfl, rfl⟩]
    refine ⟨e838.trans (by rfl), fun _ => p1, τ', by omega, ?_⟩
    have hall' : ∀ σ', zsim σ' μ τ → k_ref σ' (nI n) w1 w2 w3 w4 = 0 ∧ zsim (k_pf σ' (nI n) w1 w2 w3 w4) (zpI ν 838 0 0) τ' := fun σ' h' => by
      obtain ⟨g1, g2⟩ := hall σ' h'
      by_cases c' : k_ref σ' (nI n) w1 w2 w3 w4 = 0
      · exact ⟨c', zsim_th (g2 c').2.1 0⟩
      · rw [if_neg c'] at g1
        have : zI F 838 0 = zkc L (k_ref σ' (nI n) w1 w2 w3 w4) := by rw [g1, zI_pI, if_pos ⟨rfl, rfl⟩]
        rw [e838] at this
        exact absurd this.symm (zkc_ne hL c')
    rw [f1]
    exact ⟨zsim_th p2 0, ymod_th p3 0, hist_step hH hN hn20 e hall' (ymod_th p3 0)⟩
  · rw [if_neg c] at f1
    rw [if_neg c, if_neg c, f1]
    refine ⟨by rw [zI_pI, if_pos ⟨rfl, rfl⟩], fun z => absurd z c, τ, by omega, zsim_th h _, ymod_th hm _, ?_⟩
    obtain ⟨x1, x2, x3, x4⟩ := hH
    exact ⟨x1, x2, x3, fun ρ => ⟨(x4 ρ).1, (x4 ρ).2.1, zsim_th (x4 ρ).2.2 _⟩⟩
/-- a read call's note -/
theorem read_post (v : Int32) (h : zsim σ μ τ) (hm : ymod μ τ) (hH : zhist δ μ τ) : zsim σ (zpI μ 838 0 v) τ ∧ ymod (zpI μ 838 0 v) τ ∧ zhist δ (zpI μ 838 0 v) τ := by
  obtain ⟨x1, x2, x3, x4⟩ := hH
  exact ⟨zsim_th h _, ymod_th hm _, x1, x2, x3, fun ρ => ⟨(x4 ρ).1, (x4 ρ).2.1, zsim_th (x4 ρ).2.2 _⟩⟩
theorem za_0 (hm : ymod μ τ) (hN : zn τ 512 < 512) (w1 w2 : Int32) : zact 0 w1 w2 0 0 [2, 4] (f_X10_addRigger μ w1 w2) (fun v => r_X10_addRigger μ w1 w2 = v) μ τ := ⟨by decide, by decide, g_0 μ w1 w2, zt1 τ, zt1_n hm, fun _ h => ⟨fe_0 h hm w1 w2, fun h0 => ⟨re_0 h hm h0, sm_0 h hm hN h0⟩⟩⟩
theorem za_1 (hm : ymod μ τ) (hN : zn τ 512 < 512) (w1 w2 w3 : Int32) : zact 1 w1 w2 w3 0 [1, 2] (f_X10_setLicences μ w1 w2 w3) (fun v => r_X10_setLicences μ w1 w2 w3 = v) μ τ := ⟨by decide, by decide, g_1 μ w1 w2 w3, zt1 τ, zt1_n hm, fun _ h => ⟨fe_1 h hm w1 w2 w3, fun h0 => ⟨re_1 h hm h0, sm_1 h hm hN h0⟩⟩⟩
theorem za_2 (hm : ymod μ τ) (hN : zn τ 512 < 512) (w1 w2 w3 w4 : Int32) : zact 2 w1 w2 w3 w4 [2, 4] (f_X10_addCanopy μ w1 w2 w3 w4) (fun v => r_X10_addCanopy μ w1 w2 w3 w4 = v ∧ (w1.toUInt32 % 65536).toInt32 = w1) μ τ := ⟨by decide, by decide, g_2 μ w1 w2 w3 w4, zcT (zt1 τ) (zn μ 840), zt1_n hm, fun _ h => ⟨(ok_2 h hm w1 w2 w3 w4).1, fun h0 => ⟨⟨((ok_2 h hm w1 w2 w3 w4).2 h0).2.2, ((ok_2 h hm w1 w2 w3 w4).2 h0).2.1⟩, sm_2 h hm hN h0⟩⟩⟩
theorem za_3 (hm : ymod μ τ) (hN : zn τ 512 < 512) (w1 : Int32) : zact 3 w1 0 0 0 [2] (f_X10_setPeriod μ w1) (fun v => r_X10_setPeriod μ w1 = v) μ τ := ⟨by decide, by decide, g_3 μ w1, zt1 τ, zt1_n hm, fun _ h => ⟨fe_3 w1, fun h0 => ⟨re_3 h h0, sm_3 h hm hN h0⟩⟩⟩
theorem za_4 (hm : ymod μ τ) (hN : zn τ 512 < 512) (w1 : Int32) : zact 4 w1 0 0 0 [2, 4] (f_X10_goOn μ w1) (fun v => r_X10_goOn μ w1 = v) μ τ := ⟨by decide, by decide, g_4 μ w1, zt1 τ, zt1_n hm, fun _ h => ⟨fe_4 h w1, fun h0 => ⟨re_4 h h0, sm_4 h hm hN h0⟩⟩⟩
theorem za_5 (hm : ymod μ τ) (hN : zn τ 512 < 512) (w1 w2 : Int32) : zact 5 w1 w2 0 0 [1, 2, 3, 4] (f_X10_hang μ w1 w2) (fun v => r_X10_hang μ w1 w2 = v) μ τ := ⟨by decide, by decide, g_5 μ w1 w2, zt1 τ, zt1_n hm, fun _ h => ⟨fe_5 h hm w1 w2, fun h0 => ⟨re_5 h hm h0, sm_5 h hm hN h0⟩⟩⟩
theorem za_6 (hm : ymod μ τ) (hN : zn τ 512 < 512) (w1 w2 : Int32) : zact 6 w1 w2 0 0 [1, 3, 2] (f_X10_step μ w1 w2) (fun v => r_X10_step μ w1 w2 = v) μ τ := ⟨by decide, by decide, g_6 μ w1 w2, zt1 τ, zt1_n hm, fun _ h => ⟨(ok_6 h hm hN w1 w2).1, fun h0 => ⟨((ok_6 h hm hN w1 w2).2 h0).1, sm_6 h hm hN h0⟩⟩⟩
theorem za_7 (hm : ymod μ τ) (hN : zn τ 512 < 512) (w1 : Int32) : zact 7 w1 0 0 0 [1, 3] (f_X10_breakOff μ w1) (fun v => r_X10_breakOff μ w1 = v) μ τ := ⟨by decide, by decide, g_7 μ w1, zt1 τ, zt1_n hm, fun _ h => ⟨fe_7 h hm w1, fun h0 => ⟨re_7 h hm h0, sm_7 h hm hN h0⟩⟩⟩
theorem za_8 (hm : ymod μ τ) (hN : zn τ 512 < 512) : zact 8 0 0 0 0 [4] (f_X10_load μ) (fun v => r_X10_load μ = v) μ τ := ⟨by decide, by decide, g_8 μ, zt1 τ, zt1_n hm, fun _ h => ⟨fe_8 h hm, fun h0 => ⟨re_8 h hm h0, sm_8 h hm hN h0⟩⟩⟩
theorem za_9 (hm : ymod μ τ) (hN : zn τ 512 < 512) (w1 w2 w3 : Int32) : zact 9 w1 w2 w3 0 [1, 2, 3, 4] (f_X10_board μ w1 w2 w3) (fun v => r_X10_board μ w1 w2 w3 = v) μ τ := ⟨by decide, by decide, g_9 μ w1 w2 w3, zt1 τ, zt1_n hm, fun _ h => ⟨(ok_9 h hm w1 w2 w3).1, fun h0 => ⟨((ok_9 h hm w1 w2 w3).2 h0).1, sm_9 h hm hN h0⟩⟩⟩
theorem za_10 (hm : ymod μ τ) (hN : zn τ 512 < 512) (w1 : Int32) : zact 10 w1 0 0 0 [1, 3] (f_X10_leave μ w1) (fun v => r_X10_leave μ w1 = v) μ τ := ⟨by decide, by decide, g_10 μ w1, zt1 τ, zt1_n hm, fun _ h => ⟨(ok_10 h hm w1).1, fun h0 => ⟨((ok_10 h hm w1).2 h0).1, sm_10 h hm hN h0⟩⟩⟩
theorem za_11 (hm : ymod μ τ) (hN : zn τ 512 < 512) (w1 w2 : Int32) : zact 11 w1 w2 0 0 [1, 3] (f_X10_jump μ w1 w2) (fun v => r_X10_jump μ w1 = v) μ τ := ⟨by decide, by decide, g_11 μ w1 w2, zt1 τ, zt1_n hm, fun _ h => ⟨(ok_11 h hm w1 w2).1, fun h0 => ⟨((ok_11 h hm w1 w2).2 h0).1, sm_11 h hm hN h0⟩⟩⟩
theorem za_12 (hm : ymod μ τ) (hN : zn τ 512 < 512) (w1 : Int32) : zact 12 w1 0 0 0 [1, 4] (f_X10_find μ w1) (fun v => r_X10_find μ w1 = v) μ τ := ⟨by decide, by decide, g_F μ w1.toNatClampNeg, zfT (zt1 τ) (zn μ 843), zt1_n hm, fun _ h => ⟨(ok_12 h hm w1).1, fun h0 => ⟨by obtain ⟨c, -, -, -, hr⟩ := (ok_12 h hm w1).2 h0; exact hr, sm_12 h hm hN h0⟩⟩⟩
theorem za_13 (hm : ymod μ τ) (hN : zn τ 512 < 512) (w1 : Int32) : zact 13 w1 0 0 0 [1, 3] (f_X10_widen μ w1) (fun v => r_X10_widen μ w1 = v) μ τ := ⟨by decide, by decide, g_13 μ w1, zt1 τ, zt1_n hm, fun _ h => ⟨(ok_13 h hm w1).1, fun h0 => ⟨by obtain ⟨f, v, -, -, -, -, hr⟩ := (ok_13 h hm w1).2 h0; exact hr, sm_13 h hm hN h0⟩⟩⟩
theorem za_14 (hm : ymod μ τ) (hN : zn τ 512 < 512) (w1 w2 : Int32) : zact 14 w1 w2 0 0 [1, 2, 3] (f_X10_tellCause μ w1 w2) (fun v => r_X10_tellCause μ w1 w2 = (v.toUInt32 % 65536).toInt32 ∧ (w2.toUInt32 % 65536).toInt32 = w2) μ τ := ⟨by decide, by decide, g_14 μ w1 w2, zt1 τ, zt1_n hm, fun _ h => ⟨(ok_14 h hm w1 w2).1, fun h0 => ⟨by obtain ⟨f, -, -, h2, hr⟩ := (ok_14 h hm w1 w2).2 h0; exact ⟨hr, h2⟩, sm_14 h hm hN h0⟩⟩⟩
theorem za_15 (hm : ymod μ τ) (hN : zn τ 512 < 512) (w1 : Int32) : zact 15 w1 0 0 0 [1] (f_X10_close μ w1) (fun v => r_X10_close μ w1 = decide (v = 1)) μ τ := ⟨by decide, by decide, g_15 μ w1, zt1 τ, zt1_n hm, fun _ h => ⟨(ok_15 h hm w1).1, fun h0 => ⟨by obtain ⟨f, -, -, hr⟩ := (ok_15 h hm w1).2 h0; exact hr, sm_15 h hm hN h0⟩⟩⟩
theorem za_16 (hm : ymod μ τ) (hN : zn τ 512 < 512) (w1 w2 : Int32) : zact 16 w1 w2 0 0 [1, 3, 2] (f_X10_repair μ w1 w2) (fun v => r_X10_repair μ w1 w2 = v) μ τ := ⟨by decide, by decide, g_16 μ w1.toNatClampNeg, zrT μ (zt1 τ) w1.toNatClampNeg, by
  refine Eq.trans ?_ (zt1_n hm)
  unfold zrT
  first | rfl | (split <;> rfl), fun _ h => ⟨(ok_16 h hm w1 w2).1, fun h0 => ⟨by obtain ⟨f, -, -, hr⟩ := (ok_16 h hm w1 w2).2 h0; exact hr, sm_16 h hm hN h0⟩⟩⟩
theorem za_17 (hm : ymod μ τ) (hN : zn τ 512 < 512) (w1 : Int32) (b : Bool) : zact 17 w1 (bI b) 0 0 [1, 3] (f_X10_drop μ w1 b) (fun v => r_X10_drop μ w1 b = v) μ τ := ⟨by decide, by decide, g_17 μ w1.toNatClampNeg b, z_17 μ τ w1.toNatClampNeg b, by
  refine Eq.trans ?_ (zt1_n hm)
  unfold z_17
  split <;> rfl, fun _ h => ⟨(ok_17 h hm w1 b).1, fun h0 => ⟨by obtain ⟨f, -, -, -, hr⟩ := (ok_17 h hm w1 b).2 h0; exact hr, sm_17 h hm hN h0⟩⟩⟩
theorem za_18 (hm : ymod μ τ) (hN : zn τ 512 < 512) (w1 w2 w3 : Int32) : zact 18 w1 w2 w3 0 [1, 2, 3] (f_X10_hire μ w1 w2 w3) (fun v => r_X10_hire μ w1 w2 w3 = v) μ τ := ⟨by decide, by decide, g_18 μ w1 w2 w3, zt1 τ, zt1_n hm, fun _ h => ⟨(ok_18 h hm w1 w2 w3).1, fun h0 => ⟨by obtain ⟨f, -, -, -, hr⟩ := (ok_18 h hm w1 w2 w3).2 h0; exact hr, sm_18 h hm hN h0⟩⟩⟩
theorem za_19 (hm : ymod μ τ) (hN : zn τ 512 < 512) (w1 : Int32) (us dm : Bool) : zact 19 w1 (bI us) (bI dm) 0 [1, 3] (f_X10_back μ w1 us dm) (fun v => r_X10_back μ w1 us dm = v) μ τ := ⟨by decide, by decide, g_19 μ w1.toNatClampNeg us dm, z_19 μ τ dm, by
  refine Eq.trans ?_ (zt1_n hm)
  unfold z_19
  split <;> rfl, fun _ h => ⟨(ok_19 h hm w1 us dm).1, fun h0 => ⟨by obtain ⟨f, -, -, -, hr⟩ := (ok_19 h hm w1 us dm).2 h0; exact hr, sm_19 h hm hN h0⟩⟩⟩
/-! THE START -/
def zt0 : zS := (fun _ _ => 0, fun _ _ => 0, fun _ _ _ => 0)
theorem y0_n {f : Nat} (hf : f ≠ 845) : zn (zS0 845) f = 0 := by
  unfold zn zS0 zI
  show (if f = 845 then (180 : Int32) else 0).toNatClampNeg = 0
  rw [if_neg hf]
  rfl
theorem y0_I {f : Nat} (hf : f ≠ 845) (i : Nat) : zI (zS0 845) f i = 0 := by
  unfold zS0 zI
  show (if f = 845 then (180 : Int32) else 0) = 0
  rw [if_neg hf]
theorem zt0_n : zn zt0 512 = 0 := rfl
theorem start_sim {σ : zS} (h1 : zI σ 505 0 = 0) (h2 : zI σ 506 0 = 0) (h3 : zI σ 0 0 = 0) (h4 : zI σ 507 0 = 0) (h5 : zI σ 508 0 = 0) (h6 : zI σ 509 0 = 0) (h7 : zI σ 510 0 = 180) (h8 : zL σ 511 0 = 0) (h9 : zI σ 512 0 = 0) : zsim σ (zS0 845) zt0 := by
  refine ⟨⟨h1, h2, h3, h4, h5, h6, h7, h8, h9⟩, fun d hd => ?_, fun d hd => ?_, fun d hd => ?_, fun d hd => ?_, fun d hd => ?_, fun d hd => ?_, fun d hd => ?_, fun d hd => ?_, fun d hd => ?_, fun d hd => ?_⟩
  · rw [y0_n (by decide)] at hd; exact absurd hd (Nat.not_lt_zero _)
  · rw [y0_n (by decide)] at hd; exact absurd hd (Nat.not_lt_zero _)
  · rw [y0_n (by decide)] at hd; exact absurd hd (Nat.not_lt_zero _)
  · rw [y0_n (by decide)] at hd; exact absurd hd (Nat.not_lt_zero _)
  · rw [y0_n (by decide)] at hd; exact absurd hd (Nat.not_lt_zero _)
  · rw [y0_n (by decide)] at hd; exact absurd hd (Nat.not_lt_zero _)
  · rw [y0_n (by decide)] at hd; exact absurd hd (Nat.not_lt_zero _)
  · rw [y0_n (by decide)] at hd; exact absurd hd (by omega)
  · rw [y0_n (by decide)] at hd; exact absurd hd (Nat.not_lt_zero _)
  · rw [y0_n (by decide)] at hd; exact absurd hd (Nat.not_lt_zero _)
theorem start_b {f N : Nat} (hf : f ≠ 845) : zbd (zS0 845) f N := ⟨by rw [y0_I hf, y0_n hf]; rfl, by rw [y0_n hf]; exact Nat.zero_le _⟩
theorem start_mod : ymod (zS0 845) zt0 := by
  refine ⟨⟨start_b (by decide), start_b (by decide), start_b (by decide), start_b (by decide), start_b (by decide)⟩, ⟨⟨0, by decide, rfl⟩, 180, by decide, rfl⟩, fun d hd => ?_, fun d hd => ?_, fun d hd => ?_, fun d hd => ?_, fun d hd => ?_, fun d d' hd => ?_, fun d hd => ?_, ⟨fun d _ _ => ⟨rfl, rfl, rfl, rfl, rfl, rfl, rfl, rfl⟩, fun d _ _ => ⟨rfl, rfl⟩, fun d _ _ => rfl⟩, ⟨⟨rfl, by decide⟩, start_b (by decide), by omega, by rw [y0_n (by decide)]; exact Nat.zero_le _⟩, fun d hd => ?_, fun d hd => ?_, fun d d' hd => ?_, ?_⟩
  · rw [y0_n (by decide)] at hd; exact absurd hd (Nat.not_lt_zero _)
  · rw [y0_n (by decide)] at hd; exact absurd hd (Nat.not_lt_zero _)
  · rw [y0_n (by decide)] at hd; exact absurd hd (Nat.not_lt_zero _)
  · rw [y0_n (by decide)] at hd; exact absurd hd (Nat.not_lt_zero _)
  · rw [y0_n (by decide)] at hd; exact absurd hd (Nat.not_lt_zero _)
  · rw [y0_n (by decide)] at hd; exact absurd hd (Nat.not_lt_zero _)
  · rw [y0_n (by decide)] at hd; exact absurd hd (Nat.not_lt_zero _)
  · rw [y0_n (by decide)] at hd; exact absurd hd (Nat.not_lt_zero _)
  · rw [y0_n (by decide)] at hd; exact absurd hd (Nat.not_lt_zero _)
  · rw [y0_n (by decide)] at hd; exact absurd hd (Nat.not_lt_zero _)
  · unfold ym_b
    rw [y0_n (by decide), y0_n (by decide), zt0_n]
    exact Nat.le_refl _
theorem start_clear (ρ : zS) : zsim (f_X5_clear ρ) (zS0 845) zt0 := by
  unfold f_X5_clear
  refine start_sim ?_ ?_ ?_ ?_ ?_ ?_ ?_ ?_ ?_ <;> simp [zI_pI, zI_pL, zI_pA, zL_pI, zL_pL, zL_pA, zA_pI, zA_pL, zA_pA]
theorem start_loft : zsim (zS0 510) (zS0 845) zt0 := start_sim rfl rfl rfl rfl rfl rfl rfl rfl rfl
theorem start_hist {f0 : Nat} (hf : f0 ≠ 200) : zhist (zS0 f0) (zS0 845) zt0 := by
  have e0 : zI (zS0 f0) 200 0 = 0 := by
    unfold zS0 zI
    show (if 200 = f0 then (180 : Int32) else 0) = 0
    rw [if_neg (Ne.symm hf)]
  have z0 : zn (zS0 f0) 200 = 0 := by unfold zn; rw [e0]; rfl
  refine ⟨⟨by rw [e0, z0]; rfl, by rw [z0]; decide⟩, by rw [z0, zt0_n], fun k hk => ?_, fun ρ => ⟨fun k hk => ?_, fun k hk => ?_, ?_⟩⟩
  · rw [z0] at hk; exact absurd hk (Nat.not_lt_zero _)
  · rw [z0] at hk
    rw [show k = 0 by omega]
    exact (start_clear ρ).V start_mod
  · rw [z0] at hk; exact absurd hk (Nat.not_lt_zero _)
  · rw [z0]
    exact start_clear ρ
end ZAQ
