/-! HOOKS, HANDS, GROUNDINGS -/
theorem b_one32 : ∀ h, h < 6 → ∀ k, k < 32 → bt ((1 : Int32) <<< (nI h &&& 31)) k = decide (h = k) := by decide +kernel
section ZRE
variable {σ μ τ : zS}
theorem y_hE_bit (hm : ymod μ τ) {c k : Nat} (hk : k < 32) : bt (y_hE μ c (zn μ 841)) k = true ↔ ∃ i, i < zn μ 841 ∧ zA μ 55 0 i = nI c ∧ zA μ 56 0 i = nI k := by
  unfold y_hE
  rw [b_zorI]
  constructor
  · rintro ⟨i, hi, hb⟩
    obtain ⟨h, hh, e⟩ := (hm.2.2.2.2.2.1 i hi).2.1
    by_cases ho : zA μ 55 0 i = nI c
    · rw [if_pos ho, e, b_one32 h hh k hk] at hb
      have e2 : h = k := of_decide_eq_true hb
      exact ⟨i, hi, ho, by rw [e, e2]⟩
    · rw [if_neg ho, b_0] at hb
      exact absurd hb (by decide)
  · rintro ⟨i, hi, ho, e⟩
    obtain ⟨h, hh, e2⟩ := (hm.2.2.2.2.2.1 i hi).2.1
    have e3 : h = k := nI_inj' (by omega) (by omega) (e2.symm.trans e)
    subst e3
    exact ⟨i, hi, by rw [if_pos ho, e, b_one32 h hh h hk, decide_eq_true rfl]⟩
theorem y_shH_iff {x pk : Int32} (h : ¬ pk = -1) : y_shH μ x pk = true ↔ ∃ i, i < zn μ 841 ∧ zA μ 55 0 i = x ∧ zA μ 56 0 i = zA μ 56 0 pk.toNatClampNeg := by
  unfold y_shH
  rw [if_neg h, zany_iff]
  simp only [Bool.and_eq_true, decide_eq_true_eq]
theorem zr_hook (h : zsim σ μ τ) (hm : ymod μ τ) {c i : Nat} (hc : c < zn μ 840) (hi : i < zn μ 841) : decide ((zI σ 111 c >>> (zA σ 7 0 i &&& 31)) &&& 1 = 1) = y_shH μ (nI c) (nI i) := by
  have hb := hm.1.2.2.1.2
  obtain ⟨hk, hh, e⟩ := (hm.2.2.2.2.2.1 i hi).2.1
  rw [(h.2.2.2.2.1 c hc).2.1, (h.2.2.2.2.2.2.2.1 i hi).2.1, e]
  rw [Bool.eq_iff_iff, decide_eq_true_eq, b_test _ (by omega), y_hE_bit hm (by omega), y_shH_iff (nI_ne_m1 (by omega)), nI_clamp (by omega), e]
theorem y_hnd_bit (hm : ymod μ τ) {i : Nat} (hi : i < zn μ 841) (b : Nat) : btL (y_hnd μ i) b = true ↔ ∃ q, q < 5 ∧ ∃ r, r < 8 ∧ b = 8 * q + r ∧ zA μ 58 0 (i * 5 + q) = nI r := by
  unfold y_hnd
  rw [b_zorL]
  have key : ∀ q, q < 5 → ∀ r, r < 8 → zA μ 58 0 (i * 5 + q) = nI r → (8 * nI q + zA μ 58 0 (i * 5 + q) : Int32) = nI (8 * q + r) := fun q hq r hr e => by
    rw [e, show (8 : Int32) = nI 8 from rfl, pk_mul, nI_add]
  constructor
  · rintro ⟨q, hq, hb⟩
    obtain ⟨r, hr, e⟩ := (hm.2.2.2.2.2.1 i hi).2.2.2 q hq
    rw [key q hq r hr e, bL_one (by omega)] at hb
    exact ⟨q, hq, r, hr, (of_decide_eq_true hb).1, e⟩
  · rintro ⟨q, hq, r, hr, rfl, e⟩
    exact ⟨q, hq, by rw [key q hq r hr e, bL_one (by omega)]; exact decide_eq_true ⟨rfl, by omega⟩⟩
theorem zr_hands (h : zsim σ μ τ) {i : Nat} (hi : i < zn μ 841) : k_hands σ i = y_hnd μ i := by
  unfold k_hands y_hnd
  refine zorL_congr (fun q hq => ?_)
  rw [h.2.2.2.2.2.2.2.2.1 (i * 5 + q) (by omega)]
theorem zr_hand (h : zsim σ μ τ) (hm : ymod μ τ) {c i : Nat} (hc : c < zn μ 840) (hi : i < zn μ 841) : (!decide (zL σ 112 c &&& k_hands σ i = 0)) = y_shR μ (nI c) (nI i) := by
  have hb := hm.1.2.2.1.2
  rw [(h.2.2.2.2.1 c hc).2.2, zr_hands h hi]
  have e1 : (!decide (y_aE μ c (zn μ 841) &&& y_hnd μ i = 0)) = decide (y_aE μ c (zn μ 841) &&& y_hnd μ i ≠ 0) := by
    by_cases z : y_aE μ c (zn μ 841) &&& y_hnd μ i = 0
    · rw [decide_eq_true z, decide_eq_false (fun w => w z)]; rfl
    · rw [decide_eq_false z, decide_eq_true z]; rfl
  rw [e1, Bool.eq_iff_iff, decide_eq_true_eq, bL_ne0]
  unfold y_shR
  rw [if_neg (nI_ne_m1 (by omega)), zany_iff, nI_clamp (by omega)]
  simp only [bL_and, Bool.and_eq_true, decide_eq_true_eq]
  constructor
  · rintro ⟨b, -, hb1, hb2⟩
    unfold y_aE at hb1
    obtain ⟨k, hk, hb1⟩ := (b_zorL _ _ _).mp hb1
    by_cases ho : zA μ 55 0 k = nI c
    · rw [if_pos ho] at hb1
      obtain ⟨q, hq, r, hr, e3, e4⟩ := (y_hnd_bit hm hk b).mp hb1
      obtain ⟨q', hq', r', hr', e5, e6⟩ := (y_hnd_bit hm hi b).mp hb2
      have e7 : q = q' := by omega
      have e8 : r = r' := by omega
      subst e7; subst e8
      refine ⟨k * 5 + q, by omega, ?_, ?_⟩
      · rw [show (k * 5 + q) / 5 = k by omega]; exact ho
      · rw [show (k * 5 + q) % 5 = q by omega, e4, show 5 * i + q = i * 5 + q by omega, e6]
    · rw [if_neg ho, bL_0] at hb1
      exact absurd hb1 (by decide)
  · rintro ⟨k, hk, ho, e⟩
    have hq : k % 5 < 5 := Nat.mod_lt _ (by decide)
    have hk5 : k / 5 < zn μ 841 := by omega
    have e2 : k = k / 5 * 5 + k % 5 := by omega
    obtain ⟨r, hr, e3⟩ := (hm.2.2.2.2.2.1 (k / 5) hk5).2.2.2 (k % 5) hq
    rw [← e2] at e3
    refine ⟨8 * (k % 5) + r, by omega, ?_, ?_⟩
    · unfold y_aE
      refine (b_zorL _ _ _).mpr ⟨k / 5, hk5, ?_⟩
      rw [if_pos ho]
      exact (y_hnd_bit hm hk5 _).mpr ⟨k % 5, hq, r, hr, rfl, by rw [← e2]; exact e3⟩
    · exact (y_hnd_bit hm hi _).mpr ⟨k % 5, hq, r, hr, rfl, by rw [show i * 5 + k % 5 = 5 * i + k % 5 by omega, ← e]; exact e3⟩
theorem y_lev : ∀ v, v ≤ 4 → (!decide (nI v < 1)) = decide (0 < nI v) ∧ (!decide (nI v < 2)) = decide (1 < nI v) ∧ (!decide (nI v < 3)) = decide (2 < nI v) ∧ (!decide (nI v < 4)) = decide (3 < nI v) := by
  intro v hv
  rcases (show v = 0 ∨ v = 1 ∨ v = 2 ∨ v = 3 ∨ v = 4 by omega) with rfl | rfl | rfl | rfl | rfl <;> decide
theorem zr_reach (h : zsim σ μ τ) (hm : ymod μ τ) {f c : Nat} (hf : f < zn μ 843) (hc : c < zn μ 840) : k_reach σ f c = y_reach μ f c := by
  obtain ⟨f1, f2, f3, f4, f5, -⟩ := h.2.2.2.2.2.2.2.2.2.2 f hf
  obtain ⟨⟨o, ho, eo⟩, hp, hcl, v, hv, ev⟩ := hm.2.2.2.2.2.2.2.2.1 f hf
  have hb := hm.1.2.2.1.2
  have hbc := hm.1.2.1.2
  have mc := h.2.2.1 c hc
  have mo := h.2.2.1 o ho
  obtain ⟨l1, l2, l3, l4⟩ := y_lev v hv
  have ecl : decide (zA μ 68 0 f = 0) = !decide (zA μ 68 0 f = 1) := by rcases hcl with e | e <;> rw [e] <;> decide
  unfold k_reach y_reach k_goes
  rw [f1, f2, f3, f4, f5, ecl, eo, nI_clamp (by omega), mc.2.1, mc.2.2.1, mo.2.1, mo.2.2.1]
  obtain hp | ⟨i, hi, ei⟩ := hp
  · rw [hp]
    have e1 : k_has σ 0 (-1) = false := by unfold k_has; rfl
    have e2 : y_shH μ (nI c) (-1) = false := if_pos rfl
    have e3 : y_shR μ (nI c) (-1) = false := if_pos rfl
    rw [e1, e2, e3]
    simp only [Bool.false_and, Bool.and_false, Bool.or_false]
    congr 1
    by_cases hcs : zA μ 67 0 f = 45
    · simp only [hcs, if_true, ev, l1, l4]
      rw [Bool.or_assoc]
    · simp only [hcs, if_false]
      rw [Bool.or_assoc]
  · rw [ei, zhas_nI (zbd_eq h.1.2.2.1 hm.1.2.2.1) (by decide) (by rw [zr_np h]; exact hi), nI_clamp (by omega), zr_hook h hm hc hi, zr_hand h hm hc hi, Bool.true_and]
    congr 1
    generalize y_shH μ (nI c) (nI i) = b1
    generalize y_shR μ (nI c) (nI i) = b2
    by_cases hcs : zA μ 67 0 f = 45
    · simp only [hcs, if_true, ev, l1, l2, l3, l4]
      generalize decide (nI o = nI c) = b3
      generalize decide (0 < nI v) = b4
      generalize decide (1 < nI v) = b5
      generalize decide (2 < nI v) = b6
      generalize decide (3 < nI v) = b7
      generalize decide (zA μ 35 0 c = zA μ 35 0 o) = b8
      generalize decide (zA μ 34 0 c = zA μ 34 0 o) = b9
      cases b3 <;> cases b4 <;> cases b5 <;> cases b6 <;> cases b7 <;> cases b8 <;> cases b9 <;> cases b1 <;> cases b2 <;> rfl
    · simp only [hcs, if_false]
      generalize decide (nI o = nI c) = b3
      generalize decide (zA μ 67 0 f = 108) = b4
      generalize decide (zA μ 67 0 f = 104) = b5
      generalize decide (zA μ 67 0 f = 114) = b6
      generalize decide (zA μ 67 0 f = 99) = b7
      generalize decide (zA μ 35 0 c = zA μ 35 0 o) = b8
      generalize decide (zA μ 34 0 c = zA μ 34 0 o) = b9
      cases b3 <;> cases b4 <;> cases b5 <;> cases b6 <;> cases b7 <;> cases b8 <;> cases b9 <;> cases b1 <;> cases b2 <;> rfl
theorem zr_down (h : zsim σ μ τ) (hm : ymod μ τ) {c : Nat} (hc : c < zn μ 840) : k_down σ c = y_down μ c := by
  unfold k_down y_down
  rw [zr_nf h]
  exact zany_congr (fun f hf => by rw [zr_reach h hm hf hc, zr_free h hm hf hc])
theorem zr_fit (h : zsim σ μ τ) (hm : ymod μ τ) {c : Nat} (hc : c < zn μ 840) : k_fit σ c = y_fit μ c := by
  unfold k_fit y_fit
  rw [zr_down h hm hc, zr_old h hm hc, Bool.and_comm]
theorem zr_cntG (h : zsim σ μ τ) (hm : ymod μ τ) {f : Nat} (hf : f < zn μ 843) : k_cntG σ f = y_cntG μ f := by
  unfold k_cntG y_cntG
  rw [zr_nc h]
  exact zct_congr (fun c hc => by rw [zr_reach h hm hf hc, zr_free h hm hf hc])
theorem zr_cntD (h : zsim σ μ τ) (hm : ymod μ τ) : k_cntD σ = zct (y_down μ) (zn μ 840) := by
  unfold k_cntD
  rw [zr_nc h]
  exact zct_congr (fun c hc => zr_down h hm hc)
theorem zr_sumG (h : zsim σ μ τ) : k_sumG σ = zsmI (fun c => zA μ 43 0 c) (zn μ 840) := by
  unfold k_sumG
  rw [zr_nc h]
  exact zsmI_congr (fun c hc => (h.2.2.2.1 c hc).2.2.2.2.1)
theorem zr_held (h : zsim σ μ τ) : k_held σ = y_held μ := by
  unfold k_held y_held
  rw [zr_nc h]
  refine zsmL_congr (fun c hc => ?_)
  by_cases e : zA μ 38 0 c = 104
  · rw [if_pos e, ((h.2.2.2.2.2.2.1 c hc).1 e).2]
  · rw [if_neg e, ((h.2.2.2.2.2.2.1 c hc).2 e).2]; rfl
theorem zr_shar (h : zsim σ μ τ) (hm : ymod μ τ) {c : Nat} (hc : c < zn μ 840) : k_shar σ c = y_shr μ (nI c) := by
  have hb := hm.1.2.2.1.2
  unfold k_shar y_shr
  rw [zr_nc h]
  refine zct_congr (fun o ho => ?_)
  congr 1
  rw [(h.2.2.2.2.1 o ho).2.1, (h.2.2.2.2.1 c hc).2.1]
  have key : ¬ (y_hE μ o (zn μ 841) &&& y_hE μ c (zn μ 841) = 0) ↔ zany (fun i => decide (zA μ 55 0 i = nI c) && y_shH μ (nI o) (nI i)) (zn μ 841) = true := by
    rw [zany_iff]
    simp only [Bool.and_eq_true, decide_eq_true_eq]
    constructor
    · intro hne
      have : ∃ k, k < 32 ∧ bt (y_hE μ o (zn μ 841) &&& y_hE μ c (zn μ 841)) k = true := by
        apply Classical.byContradiction
        intro g
        apply hne
        refine b_ext (fun k hk => ?_)
        rw [b_0]
        exact Bool.eq_false_iff.mpr (fun z => g ⟨k, hk, z⟩)
      obtain ⟨k, hk, hb⟩ := this
      rw [b_and, Bool.and_eq_true, y_hE_bit hm hk, y_hE_bit hm hk] at hb
      obtain ⟨⟨i, hi, e1, e2⟩, j, hj, e3, e4⟩ := hb
      exact ⟨j, hj, e3, (y_shH_iff (nI_ne_m1 (by omega))).mpr ⟨i, hi, e1, by rw [nI_clamp (by omega), e2, e4]⟩⟩
    · rintro ⟨j, hj, e3, hs⟩ hz
      obtain ⟨i, hi, e1, e2⟩ := (y_shH_iff (nI_ne_m1 (by omega))).mp hs
      rw [nI_clamp (by omega)] at e2
      obtain ⟨k, hk, e4⟩ := (hm.2.2.2.2.2.1 j hj).2.1
      have := congrArg (fun z => bt z k) hz
      simp only [b_and, b_0] at this
      rw [(y_hE_bit hm (by omega)).mpr ⟨i, hi, e1, e2.trans e4⟩, (y_hE_bit hm (by omega)).mpr ⟨j, hj, e3, e4⟩] at this
      exact absurd this (by decide)
  by_cases z : y_hE μ o (zn μ 841) &&& y_hE μ c (zn μ 841) = 0
  · rw [decide_eq_true z, Bool.eq_false_iff.mpr (fun w => (key.mpr w) z)]; rfl
  · rw [decide_eq_false z, key.mp z]; rfl
theorem zr_next (h : zsim σ μ τ) (hm : ymod μ τ) : ∀ n, n ≤ zn μ 840 → (k_first σ n).1 = y_next μ n ∧ ((k_first σ n).1 = -1 ∨ ∃ c, c < n ∧ (k_first σ n).1 = nI c ∧ (k_first σ n).2 = k_left σ c ∧ ∃ i, i < zn μ 841 ∧ zA μ 41 0 c = nI i)
  | 0, _ => ⟨rfl, Or.inl rfl⟩
  | n + 1, hn => by
    obtain ⟨i1, i2⟩ := zr_next h hm n (by omega)
    have hbc := hm.1.2.1.2
    have hbp := hm.1.2.2.1.2
    have e1 := (h.2.2.1 n (by omega)).1
    have e2 := (h.2.2.2.1 n (by omega)).1
    have e3 := zr_old h hm (c := n) (by omega)
    rw [k_first, y_next, e1, e2, e3]
    generalize hk : k_first σ n = ab at i1 i2
    obtain ⟨a, b⟩ := ab
    dsimp only at i1 i2 ⊢
    subst i1
    by_cases hc : zA μ 33 0 n = 114 ∧ zA μ 38 0 n = 107 ∧ y_old μ n = false
    · obtain ⟨i, hi, ei⟩ := (hm.2.2.2.2.1 n (by omega)).2 (by simp [y_ready, hc.2.1])
      obtain ⟨d, p, q, hd, hp, hq, g1, g2, g3, g4⟩ := zr_left h hm (c := n) (by omega) hi ei
      have hcond : (y_next μ n < 0 ∨ ¬ b ≤ k_left σ n) ↔ (y_next μ n = -1 ∨ zA μ 57 0 (zA μ 41 0 n).toNatClampNeg < zA μ 57 0 (zA μ 41 0 (y_next μ n).toNatClampNeg).toNatClampNeg) := by
        obtain j | ⟨c, hc2, j1, j2, j, hj, ej⟩ := i2
        · rw [j]
          exact ⟨fun _ => Or.inl rfl, fun _ => Or.inl (by decide)⟩
        · obtain ⟨d', p', q', hd', hp', hq', g1', g2', g3', g4'⟩ := zr_left h hm (c := c) (by omega) hj ej
          have ed : d = d' := nI_inj' (by omega) (by omega) (g1.symm.trans g1')
          have ep : p = p' := nI_inj' (by omega) (by omega) (g2.symm.trans g2')
          subst ed; subst ep
          rw [j1, j2, nI_clamp (by omega), ei, ej, nI_clamp (by omega), nI_clamp (by omega), g3, g3']
          have n1 : ¬ nI c < 0 := nI_pos (by omega)
          have n2 : ¬ nI c = -1 := nI_ne_m1 (by omega)
          have w1 : (¬ k_left σ c ≤ k_left σ n) ↔ nI q < nI q' := by
            rw [Int32.le_iff_toInt_le, Int32.lt_iff_toInt_lt, g4, g4', nI_toInt (by omega), nI_toInt (by omega)]
            omega
          rw [w1]
          exact ⟨fun w => w.elim (fun w => absurd w n1) Or.inr, fun w => w.elim (fun w => absurd w n2) Or.inr⟩
      rw [if_pos hc]
      by_cases hz : y_next μ n = -1 ∨ zA μ 57 0 (zA μ 41 0 n).toNatClampNeg < zA μ 57 0 (zA μ 41 0 (y_next μ n).toNatClampNeg).toNatClampNeg
      · rw [if_pos hz, if_pos ⟨hc.1, hc.2.1, hc.2.2, hcond.mpr hz⟩]
        exact ⟨rfl, Or.inr ⟨n, by omega, rfl, rfl, i, hi, ei⟩⟩
      · rw [if_neg hz, if_neg (fun w => hz (hcond.mp w.2.2.2))]
        exact ⟨rfl, i2.imp id (fun ⟨c, w1, w2⟩ => ⟨c, by omega, w2⟩)⟩
    · rw [if_neg hc, if_neg (fun w => hc ⟨w.1, w.2.1, w.2.2.1⟩)]
      exact ⟨rfl, i2.imp id (fun ⟨c, w1, w2⟩ => ⟨c, by omega, w2⟩)⟩
end ZRE
