section ZAR
variable {σ μ τ : zS}
/-! THE READS: what the class answers, the model answers -/
theorem kat_eq (h : zsim σ μ τ) (hm : ymod μ τ) (x : Int32) : k_at σ x = if y_has μ 840 x = false then 1 else 0 := by
  unfold k_at
  rw [zr_has_c h hm]
  cases y_has μ 840 x <;> rfl
theorem rd_grounds (h : zsim σ μ τ) (hm : ymod μ τ) (x : Int32) : f_X10_grounds μ x = zpI μ 838 0 (zkc [1] (k_atF σ x)) ∧ (k_atF σ x = 0 → r_X10_grounds μ x = nI (k_cntG σ x.toNatClampNeg)) := by
  obtain ⟨mn, md, ms, mw, mk, mp, ml, mx, mf, mz, t0, tc, tf, tx, mb⟩ := id hm
  obtain ⟨b1, b2, b3, b4, b5⟩ := id mn
  unfold f_X10_grounds r_X10_grounds k_atF
  rw [zr_has_f h hm]
  cases h1 : y_has μ 843 x
  · exact ⟨rfl, fun z => absurd z (by decide)⟩
  · obtain ⟨f, hf, rfl⟩ := yhas_lt b5 (by decide) h1
    have := b5.2
    refine ⟨rfl, fun _ => ?_⟩
    rw [if_pos rfl, nI_clamp (by omega), zr_cntG h hm hf]
theorem y_char {μ τ : zS} (hm : ymod μ τ) {c : Nat} (hc : c < zn μ 840) : ((zA μ 38 0 c).toUInt32 % 65536).toInt32 = zA μ 38 0 c ∧ narrow .char (.int (zA μ 38 0 c)) = .int (zA μ 38 0 c) := by
  obtain ⟨mn, md, ms, mw, mk, mp, ml, mx, mf, mz, t0, tc, tf, tx, mb⟩ := id hm
  obtain ⟨b1, b2, b3, b4, b5⟩ := id mn
  rcases ms c hc with e | e | e | e | e <;> rw [e] <;> exact ⟨by decide, rfl⟩
theorem rd_hch (h : zsim σ μ τ) (hm : ymod μ τ) {x : Int32} (h1 : k_has σ 506 x = true) : narrow .char (.int (zI σ 105 x.toNatClampNeg)) = .int (zI σ 105 x.toNatClampNeg) := by
  obtain ⟨hn, hg, hmm, hc, he, hw, hh, hp, hr, hl, hf⟩ := id h
  obtain ⟨n1, n2, n3, n4, n5, n6, n7, n8, n9⟩ := id hn
  obtain ⟨mn, md, ms, mw, mk, mp, ml, mx, mf, mz, t0, tc, tf, tx, mb⟩ := id hm
  obtain ⟨b1, b2, b3, b4, b5⟩ := id mn
  rw [zr_has_c h hm] at h1
  obtain ⟨c, hc1, rfl⟩ := yhas_lt b2 (by decide) h1
  have := b2.2
  rw [nI_clamp (by omega), (hc c hc1).1]
  exact (y_char hm hc1).2
theorem rd_stateOf (h : zsim σ μ τ) (hm : ymod μ τ) (x : Int32) : f_X10_stateOf μ x = zpI μ 838 0 (zkc [1] (k_at σ x)) ∧ (k_at σ x = 0 → r_X10_stateOf μ x = zI σ 105 x.toNatClampNeg) := by
  obtain ⟨hn, hg, hmm, hc, he, hw, hh, hp, hr, hl, hf⟩ := id h
  obtain ⟨n1, n2, n3, n4, n5, n6, n7, n8, n9⟩ := id hn
  obtain ⟨mn, md, ms, mw, mk, mp, ml, mx, mf, mz, t0, tc, tf, tx, mb⟩ := id hm
  obtain ⟨b1, b2, b3, b4, b5⟩ := id mn
  unfold f_X10_stateOf r_X10_stateOf
  rw [kat_eq h hm]
  cases h1 : y_has μ 840 x
  · exact ⟨rfl, fun z => absurd z (by decide)⟩
  · obtain ⟨c, hc1, rfl⟩ := yhas_lt b2 (by decide) h1
    have := b2.2
    refine ⟨rfl, fun _ => ?_⟩
    rw [if_neg (by decide), nI_clamp (by omega), (hc c hc1).1]
    exact (y_char hm hc1).1
theorem rd_isGrounded (h : zsim σ μ τ) (hm : ymod μ τ) (x : Int32) : f_X10_isGrounded μ x = zpI μ 838 0 (zkc [1] (k_at σ x)) ∧ (k_at σ x = 0 → r_X10_isGrounded μ x = k_down σ x.toNatClampNeg) := by
  obtain ⟨mn, md, ms, mw, mk, mp, ml, mx, mf, mz, t0, tc, tf, tx, mb⟩ := id hm
  obtain ⟨b1, b2, b3, b4, b5⟩ := id mn
  unfold f_X10_isGrounded r_X10_isGrounded
  rw [kat_eq h hm]
  cases h1 : y_has μ 840 x
  · exact ⟨rfl, fun z => absurd z (by decide)⟩
  · obtain ⟨c, hc1, rfl⟩ := yhas_lt b2 (by decide) h1
    have := b2.2
    refine ⟨rfl, fun _ => ?_⟩
    rw [if_neg (by decide), nI_clamp (by omega), zr_down h hm hc1]
    rfl
theorem rd_isOut (h : zsim σ μ τ) (hm : ymod μ τ) (x : Int32) : f_X10_isOut μ x = zpI μ 838 0 (zkc [1] (k_at σ x)) ∧ (k_at σ x = 0 → r_X10_isOut μ x = k_old σ x.toNatClampNeg) := by
  obtain ⟨mn, md, ms, mw, mk, mp, ml, mx, mf, mz, t0, tc, tf, tx, mb⟩ := id hm
  obtain ⟨b1, b2, b3, b4, b5⟩ := id mn
  unfold f_X10_isOut r_X10_isOut
  rw [kat_eq h hm]
  cases h1 : y_has μ 840 x
  · exact ⟨rfl, fun z => absurd z (by decide)⟩
  · obtain ⟨c, hc1, rfl⟩ := yhas_lt b2 (by decide) h1
    have := b2.2
    refine ⟨rfl, fun _ => ?_⟩
    rw [if_neg (by decide), nI_clamp (by omega), zr_old h hm hc1]
    rfl
theorem rd_jumps (h : zsim σ μ τ) (hm : ymod μ τ) (x : Int32) : f_X10_jumps μ x = zpI μ 838 0 (zkc [1] (k_at σ x)) ∧ (k_at σ x = 0 → r_X10_jumps μ x = zI σ 113 x.toNatClampNeg) := by
  obtain ⟨hn, hg, hmm, hc, he, hw, hh, hp, hr, hl, hf⟩ := id h
  obtain ⟨n1, n2, n3, n4, n5, n6, n7, n8, n9⟩ := id hn
  obtain ⟨mn, md, ms, mw, mk, mp, ml, mx, mf, mz, t0, tc, tf, tx, mb⟩ := id hm
  obtain ⟨b1, b2, b3, b4, b5⟩ := id mn
  unfold f_X10_jumps r_X10_jumps
  rw [kat_eq h hm]
  cases h1 : y_has μ 840 x
  · exact ⟨rfl, fun z => absurd z (by decide)⟩
  · obtain ⟨c, hc1, rfl⟩ := yhas_lt b2 (by decide) h1
    have := b2.2
    refine ⟨rfl, fun _ => ?_⟩
    rw [if_neg (by decide), nI_clamp (by omega), (hc c hc1).2.2.1]
    rfl
theorem rd_packings (h : zsim σ μ τ) (hm : ymod μ τ) (x : Int32) : f_X10_packings μ x = zpI μ 838 0 (zkc [1] (k_at σ x)) ∧ (k_at σ x = 0 → r_X10_packings μ x = zI σ 109 x.toNatClampNeg) := by
  obtain ⟨hn, hg, hmm, hc, he, hw, hh, hp, hr, hl, hf⟩ := id h
  obtain ⟨n1, n2, n3, n4, n5, n6, n7, n8, n9⟩ := id hn
  obtain ⟨mn, md, ms, mw, mk, mp, ml, mx, mf, mz, t0, tc, tf, tx, mb⟩ := id hm
  obtain ⟨b1, b2, b3, b4, b5⟩ := id mn
  unfold f_X10_packings r_X10_packings
  rw [kat_eq h hm]
  cases h1 : y_has μ 840 x
  · exact ⟨rfl, fun z => absurd z (by decide)⟩
  · obtain ⟨c, hc1, rfl⟩ := yhas_lt b2 (by decide) h1
    have := b2.2
    refine ⟨rfl, fun _ => ?_⟩
    rw [if_neg (by decide), nI_clamp (by omega), (he c hc1).1]
    rfl
theorem rd_sharers (h : zsim σ μ τ) (hm : ymod μ τ) (x : Int32) : f_X10_sharers μ x = zpI μ 838 0 (zkc [1] (k_at σ x)) ∧ (k_at σ x = 0 → r_X10_sharers μ x = nI (k_shar σ x.toNatClampNeg)) := by
  obtain ⟨mn, md, ms, mw, mk, mp, ml, mx, mf, mz, t0, tc, tf, tx, mb⟩ := id hm
  obtain ⟨b1, b2, b3, b4, b5⟩ := id mn
  unfold f_X10_sharers r_X10_sharers
  rw [kat_eq h hm]
  cases h1 : y_has μ 840 x
  · exact ⟨rfl, fun z => absurd z (by decide)⟩
  · obtain ⟨c, hc1, rfl⟩ := yhas_lt b2 (by decide) h1
    have := b2.2
    refine ⟨rfl, fun _ => ?_⟩
    rw [if_pos rfl, nI_clamp (by omega), zr_shar h hm hc1]
theorem rd_next (h : zsim σ μ τ) (hm : ymod μ τ) : f_X10_next μ = zpI μ 838 0 (zkc [5] (k_nxr σ)) ∧ (k_nxr σ = 0 → r_X10_next μ = k_nx σ) := by
  obtain ⟨mn, md, ms, mw, mk, mp, ml, mx, mf, mz, t0, tc, tf, tx, mb⟩ := id hm
  obtain ⟨b1, b2, b3, b4, b5⟩ := id mn
  have hb2 := b2.2
  obtain ⟨e1, e2⟩ := zr_next h hm (zn μ 840) (Nat.le_refl _)
  have e3 : k_nx σ = y_next μ (zn μ 840) := by
    unfold k_nx
    rw [zr_nc h]
    exact e1
  unfold f_X10_next r_X10_next k_nxr
  rw [e3]
  rw [e1] at e2
  rcases e2 with e | ⟨c, hc, e, -⟩
  · rw [e]
    exact ⟨rfl, fun z => absurd z (by decide)⟩
  · have c1 : ¬ nI c = -1 := nI_ne_m1 (by omega)
    have c2 : ¬ nI c < 0 := nI_pos (by omega)
    rw [e, if_neg c1, if_neg c1, if_neg c2]
    exact ⟨rfl, fun _ => rfl⟩
theorem rd_held (h : zsim σ μ τ) : y_held μ = k_held σ := (zr_held h).symm
theorem rd_kept (h : zsim σ μ τ) : r_X10_kept μ = zL σ 511 0 := h.1.2.2.2.2.2.2.2.1.symm
/-! packingOf -/
theorem kin_iff {x lo hi : Int32} : k_in x lo hi = true ↔ lo ≤ x ∧ x ≤ hi := by
  simp only [k_in, Bool.and_eq_true, Bool.not_eq_true', decide_eq_false_iff_not, Int32.lt_iff_toInt_lt, Int32.le_iff_toInt_le]
  omega
theorem kin_cnt {j : Int32} {n : Nat} (hn : n < 2 ^ 20) : k_in j 0 (nI n - 1) = true ↔ ¬ (j < 0 ∨ nI n ≤ j) := by
  have h4 : (nI n - 1).toInt = (n : Int) - 1 := pk_sub_toInt (b := 1) (by omega) (by decide)
  have h5 : (nI n).toInt = (n : Int) := nI_toInt (by omega)
  simp only [k_in, Bool.and_eq_true, Bool.not_eq_true', decide_eq_false_iff_not, Int32.lt_iff_toInt_lt, Int32.le_iff_toInt_le, h4, h5]
  omega
theorem zct_hit {p : Nat → Bool} {t : Nat} : ∀ {n : Nat}, t < zct p n → ∃ k, k < n ∧ p k = true ∧ zct p k = t
  | 0, h => absurd h (Nat.not_lt_zero _)
  | n + 1, h => by
    rw [zct] at h
    rcases Nat.lt_or_ge t (zct p n) with g | g
    · obtain ⟨k, hk, h1, h2⟩ := zct_hit g
      exact ⟨k, by omega, h1, h2⟩
    · by_cases hp : p n = true
      · rw [if_pos hp] at h
        exact ⟨n, by omega, hp, by omega⟩
      · rw [if_neg hp] at h
        omega
theorem zr_num (h : zsim σ μ τ) (x j : Int32) : k_num σ x j = y_num μ x j := by
  obtain ⟨hn, hg, hmm, hc, he, hw, hh, hp, hr, hl, hf⟩ := id h
  obtain ⟨n1, n2, n3, n4, n5, n6, n7, n8, n9⟩ := id hn
  unfold k_num y_num
  rw [zr_np h]
  refine zfst_congr (fun i hi => ?_)
  have e1 : ∀ i, i < zn μ 841 → k_own σ x i = decide (zA μ 55 0 i = x) := fun i hi => by
    unfold k_own
    rw [(hp i hi).1]
  rw [e1 i hi, zct_congr (fun q hq => e1 q (by omega))]
theorem zs_pkr (h : zsim σ μ τ) (hm : ymod μ τ) (x j w : Int32) : k_pkr σ x j w = y_pkr μ x j w := by
  obtain ⟨hn, hg, hmm, hc, he, hw, hh, hp, hr, hl, hf⟩ := id h
  obtain ⟨n1, n2, n3, n4, n5, n6, n7, n8, n9⟩ := id hn
  obtain ⟨mn, md, ms, mw, mk, mp, ml, mx, mf, mz, t0, tc, tf, tx, mb⟩ := id hm
  obtain ⟨b1, b2, b3, b4, b5⟩ := id mn
  unfold k_pkr y_pkr
  rw [zr_has_c h hm]
  cases h1 : y_has μ 840 x
  · rw [if_neg (show ¬ (false = true) by decide), if_neg (fun z => absurd z.1 (by decide))]
  · obtain ⟨c, hc1, rfl⟩ := yhas_lt b2 (by decide) h1
    have hb2 := b2.2
    have hb3 := b3.2
    have ec : (nI c).toNatClampNeg = c := nI_clamp (by omega)
    have hle : y_pks μ (nI c) ≤ zn μ 841 := zct_le _ _
    have e109 : zI σ 109 c = nI (y_pks μ (nI c)) := (he c hc1).1
    have k1 := kin_cnt (j := j) (n := y_pks μ (nI c)) (by omega)
    rw [if_pos (show (true = true) from rfl), ec, e109]
    by_cases c1 : j < 0 ∨ nI (y_pks μ (nI c)) ≤ j
    · rw [if_pos c1, if_neg (fun z => (k1.mp z.2) c1)]
    · rw [if_neg c1, if_pos (show true = true ∧ k_in j 0 (nI (y_pks μ (nI c)) - 1) = true from ⟨rfl, k1.mpr c1⟩)]
      by_cases c2 : w = 104 ∨ w = 100 ∨ (48 ≤ w ∧ w ≤ 52)
      · rw [if_pos c2, if_pos (c2.imp id (fun z => z.imp id kin_iff.mpr))]
      · rw [if_neg c2, if_neg (fun z => c2 (z.imp id (fun z => z.imp id kin_iff.mp)))]
theorem rd_packingOf (h : zsim σ μ τ) (hm : ymod μ τ) (x j w : Int32) : f_X10_packingOf μ x j w = zpI μ 838 0 (zkc [1, 2] (k_pkr σ x j w)) ∧ (k_pkr σ x j w = 0 → r_X10_packingOf μ x j w = k_look σ x j w) := by
  obtain ⟨hn, hg, hmm, hc, he, hw, hh, hp, hr, hl, hf⟩ := id h
  obtain ⟨n1, n2, n3, n4, n5, n6, n7, n8, n9⟩ := id hn
  obtain ⟨mn, md, ms, mw, mk, mp, ml, mx, mf, mz, t0, tc, tf, tx, mb⟩ := id hm
  obtain ⟨b1, b2, b3, b4, b5⟩ := id mn
  have hb2 := b2.2
  have hb3 := b3.2
  have e := zs_pkr h hm x j w
  refine ⟨?_, fun z => ?_⟩
  · unfold f_X10_packingOf
    rw [e]
    have : y_pkr μ x j w = 0 ∨ y_pkr μ x j w = 1 ∨ y_pkr μ x j w = 2 := by
      unfold y_pkr
      split
      · split <;> simp
      · simp
    rcases this with g | g | g <;> rw [g] <;> rfl
  · rw [e] at z
    unfold r_X10_packingOf k_look
    rw [if_pos z, zr_num h]
    unfold y_pkr at z
    by_cases c1 : y_has μ 840 x = true ∧ k_in j 0 (nI (y_pks μ x) - 1) = true
    · rw [if_pos c1] at z
      by_cases c2 : w = 104 ∨ w = 100 ∨ k_in w 48 52 = true
      · obtain ⟨t, ht, rfl⟩ := yin_n (by have : y_pks μ x ≤ zn μ 841 := zct_le _ _; omega) c1.2
        obtain ⟨k, hk, p1, p2⟩ := zct_hit ht
        have en : y_num μ x (nI t) = nI k := y_num_at hk hb3 (of_decide_eq_true p1) (by rw [p2])
        have ek : (nI k).toNatClampNeg = k := nI_clamp (by omega)
        have hk0 : k_has σ 0 (nI k) = true := zhas_nI (zbd_eq n3 b3) (by decide) (by rw [zr_np h]; exact hk)
        rw [en, if_pos hk0, ek]
        by_cases d1 : w = 104
        · rw [if_pos d1, if_pos d1]
          exact (hp k hk).2.1.symm
        · rw [if_neg d1, if_neg d1]
          by_cases d2 : w = 100
          · rw [if_pos d2, if_pos d2]
            exact (hp k hk).2.2.symm
          · rw [if_neg d2, if_neg d2]
            have d3 := (c2.resolve_left d1).resolve_left d2
            obtain ⟨q, q1, q2, rfl⟩ := zk_lt (a := 48) (b := 52) d3 (by decide) (by decide)
            obtain ⟨u, rfl⟩ : ∃ u, q = 48 + u := ⟨q - 48, by omega⟩
            have eu : nI (48 + u) - 48 = nI u := Int32.toInt_inj.mp (by rw [show (48 : Int32) = nI 48 from rfl, pk_sub_toInt (by omega) (by decide), nI_toInt (by omega)]; omega)
            have f1 : ¬ nI u < 0 := nI_pos (by omega)
            have f2 : ¬ (5 : Int32) ≤ nI u := fun z => by
              rw [show (5 : Int32) = nI 5 from rfl, nI_leI (by omega) (by omega)] at z
              omega
            have g1 : ((5 : Int32) * nI k + nI (48 + u) - 48).toNatClampNeg = k * 5 + u := by
              rw [nI_m5, nI_add, show (48 : Int32) = nI 48 from rfl, show nI (5 * k + (48 + u)) - nI 48 = nI (k * 5 + u) from Int32.toInt_inj.mp (by rw [pk_sub_toInt (by omega) (by decide), nI_toInt (by omega)]; omega), nI_clamp (by omega)]
            have g2 : (nI k * 5 + nI u).toNatClampNeg = k * 5 + u := by
              rw [show (5 : Int32) = nI 5 from rfl, pk_mul, nI_add, nI_clamp (by omega)]
            rw [eu, if_neg f1, if_neg f2, g1, g2]
            exact (hr (k * 5 + u) (by omega)).symm
      · rw [if_neg c2] at z; exact absurd z (by decide)
    · rw [if_neg c1] at z; exact absurd z (by decide)
end ZAR
