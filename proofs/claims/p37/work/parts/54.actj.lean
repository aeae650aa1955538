section ZAM
variable {σ μ τ : zS}
/-! 11: jump -/
theorem y_jm_I (μ : zS) (w1 w2 : Int32) (f i : Nat) : ∀ k, zI (y_jm μ w1 w2 k) f i = zI μ f i
  | 0 => rfl
  | k + 1 => by
    rw [y_jm]
    split <;> (rw [zI_pA, zI_pA, zI_pA, zI_pA]; exact y_jm_I μ w1 w2 f i k)
theorem y_jm_L (μ : zS) (w1 w2 : Int32) (f i : Nat) : ∀ k, zL (y_jm μ w1 w2 k) f i = zL μ f i
  | 0 => rfl
  | k + 1 => by
    rw [y_jm]
    split <;> (rw [zL_pA, zL_pA, zL_pA, zL_pA]; exact y_jm_L μ w1 w2 f i k)
theorem y_jm_60 (μ : zS) (w1 w2 : Int32) (d : Nat) : ∀ k, zA (y_jm μ w1 w2 k) 60 0 d = if d = w1.toNatClampNeg then 1 else zA μ 60 0 d
  | 0 => by
    rw [y_jm, zA_pA]
    by_cases e : d = w1.toNatClampNeg
    · rw [if_pos ⟨rfl, rfl, e⟩, if_pos e]
    · rw [if_neg (fun z => e z.2.2), if_neg e]
  | k + 1 => by
    rw [y_jm]
    split <;> (rw [zA_pA, if_neg (fun z => absurd z.1 (by decide)), zA_pA, if_neg (fun z => absurd z.1 (by decide)), zA_pA, if_neg (fun z => absurd z.1 (by decide)), zA_pA, if_neg (fun z => absurd z.1 (by decide))]; exact y_jm_60 μ w1 w2 d k)
theorem k_jmp_L (σ : zS) (o : Nat) (rs : Int32) (f i : Nat) : ∀ k, zL (k_jmp σ o rs k) f i = zL σ f i
  | 0 => rfl
  | k + 1 => by
    rw [k_jmp]
    unfold f_X1_land
    split <;> (rw [zL_pI, zL_pI]; first | exact k_jmp_L σ o rs f i k | (rw [zL_pI, zL_pI]; exact k_jmp_L σ o rs f i k) | (rw [zL_pI]; exact k_jmp_L σ o rs f i k))
theorem land_105 (ρ : zS) (u d : Nat) : zI (f_X1_land ρ u) 105 d = if d = u then 111 else zI ρ 105 d := by
  unfold f_X1_land
  by_cases e : d = u <;> simp [zI_pI, e]
theorem land_113 (ρ : zS) (u d : Nat) : zI (f_X1_land ρ u) 113 d = if d = u then zI ρ 113 u + 1 else zI ρ 113 d := by
  unfold f_X1_land
  by_cases e : d = u <;> simp [zI_pI, e]
def y_l2 (ρ : zS) (u : Nat) (v w : Int32) : zS := zpA (zpA ρ 38 0 u v) 42 0 u (zA (zpA ρ 38 0 u v) 42 0 u + w)
theorem l2_38 (ρ : zS) (u d : Nat) (v w : Int32) : zA (y_l2 ρ u v w) 38 0 d = if d = u then v else zA ρ 38 0 d := by
  unfold y_l2
  by_cases e : d = u <;> simp [zA_pA, e]
theorem l2_42 (ρ : zS) (u d : Nat) (v w : Int32) : zA (y_l2 ρ u v w) 42 0 d = if d = u then zA ρ 42 0 u + w else zA ρ 42 0 d := by
  unfold y_l2
  by_cases e : d = u <;> simp [zA_pA, e]
theorem y_jm_s (μ : zS) (w1 w2 : Int32) (k : Nat) : y_jm μ w1 w2 (k + 1) = if (w2 >>> (nI k &&& 31)) &&& 1 = 1 then y_l2 (y_l2 (y_jm μ w1 w2 k) (zA μ 61 0 (6 * w1.toNatClampNeg + k)).toNatClampNeg 111 1) (zA μ 62 0 (6 * w1.toNatClampNeg + k)).toNatClampNeg 111 1 else y_l2 (y_l2 (y_jm μ w1 w2 k) (zA μ 61 0 (6 * w1.toNatClampNeg + k)).toNatClampNeg 111 1) (zA μ 62 0 (6 * w1.toNatClampNeg + k)).toNatClampNeg 107 0 := rfl
theorem add0 (x : Int32) : x + 0 = x := Int32.add_zero x
/-- both sides step alike -/
theorem jm_sim {l : Nat} {w1 w2 : Int32} (el : w1.toNatClampNeg = l) {a : Nat} (hA : ∀ q, q < a → zA σ 14 l q = zA μ 61 0 (6 * l + q) ∧ zA σ 15 l q = zA μ 62 0 (6 * l + q)) {n : Nat} (h0 : ∀ d, d < n → zI σ 105 d = zA μ 38 0 d ∧ zI σ 113 d = zA μ 42 0 d) (hin : ∀ q, q < a → (zA μ 61 0 (6 * l + q)).toNatClampNeg < n ∧ (zA μ 62 0 (6 * l + q)).toNatClampNeg < n) : ∀ k, k ≤ a → ∀ d, d < n → zI (k_jmp σ l w2 k) 105 d = zA (y_jm μ w1 w2 k) 38 0 d ∧ zI (k_jmp σ l w2 k) 113 d = zA (y_jm μ w1 w2 k) 42 0 d
  | 0, _, d, hd => by
    rw [k_jmp, y_jm, zA_pA, if_neg (fun z => absurd z.1 (by decide)), zA_pA, if_neg (fun z => absurd z.1 (by decide))]
    exact h0 d hd
  | k + 1, hk, d, hd => by
    have ih := jm_sim (w2 := w2) el hA h0 hin k (by omega)
    obtain ⟨e1, e2⟩ := hA k (by omega)
    obtain ⟨i1, i2⟩ := hin k (by omega)
    rw [y_jm_s, k_jmp, el]
    have a1 : zA (k_jmp σ l w2 k) 14 l k = zA μ 61 0 (6 * l + k) := by rw [k_jmp_A]; exact e1
    have a2 : ∀ u, zA (f_X1_land (k_jmp σ l w2 k) u) 15 l k = zA μ 62 0 (6 * l + k) := fun u => by
      unfold f_X1_land
      rw [zA_pI, zA_pI, k_jmp_A]
      exact e2
    rw [a1, a2]
    generalize (zA μ 61 0 (6 * l + k)).toNatClampNeg = m at i1
    generalize (zA μ 62 0 (6 * l + k)).toNatClampNeg = r at i2
    by_cases cw : (w2 >>> (nI k &&& 31)) &&& 1 = 1
    · rw [if_pos cw, if_pos cw]
      simp only [land_105, land_113, l2_38, l2_42, (ih d hd).1, (ih d hd).2, (ih m i1).2, (ih r i2).2, and_self]
    · rw [if_neg cw, if_neg cw]
      rw [zI_pI, zI_pI, if_neg (show ¬ (113 = 105 ∧ d = r) from fun z => absurd z.1 (by decide))]
      simp only [land_105, land_113, l2_38, l2_42, (ih d hd).1, (ih d hd).2, (ih m i1).2, (ih r i2).2, add0, true_and]
      by_cases dr : d = r
      · subst dr
        simp only [if_true, (ih d hd).2]
      · simp only [dr, if_false]
/-- only the load's canopies change -/
theorem jm_keep {l : Nat} {w1 w2 : Int32} (el : w1.toNatClampNeg = l) {d : Nat} : ∀ k, (∀ q, q < k → (zA μ 61 0 (6 * l + q)).toNatClampNeg ≠ d ∧ (zA μ 62 0 (6 * l + q)).toNatClampNeg ≠ d) → zA (y_jm μ w1 w2 k) 38 0 d = zA μ 38 0 d ∧ zA (y_jm μ w1 w2 k) 42 0 d = zA μ 42 0 d
  | 0, _ => by
    rw [y_jm, zA_pA, if_neg (fun z => absurd z.1 (by decide)), zA_pA, if_neg (fun z => absurd z.1 (by decide))]
    exact ⟨rfl, rfl⟩
  | k + 1, hq => by
    have ih := jm_keep (w2 := w2) el k (fun q h => hq q (by omega))
    obtain ⟨e1, e2⟩ := hq k (by omega)
    rw [y_jm_s, el]
    split <;> (rw [l2_38, if_neg (Ne.symm e2), l2_38, if_neg (Ne.symm e1), l2_42, if_neg (Ne.symm e2), l2_42, if_neg (Ne.symm e1)]; exact ih)
theorem jm_new {l : Nat} {w1 w2 : Int32} (el : w1.toNatClampNeg = l) (d : Nat) : ∀ k, zA (y_jm μ w1 w2 k) 38 0 d = zA μ 38 0 d ∨ ((∃ q, q < k ∧ ((zA μ 61 0 (6 * l + q)).toNatClampNeg = d ∨ (zA μ 62 0 (6 * l + q)).toNatClampNeg = d)) ∧ (zA (y_jm μ w1 w2 k) 38 0 d = 97 ∨ zA (y_jm μ w1 w2 k) 38 0 d = 107 ∨ zA (y_jm μ w1 w2 k) 38 0 d = 111))
  | 0 => by
    rw [y_jm, zA_pA, if_neg (fun z => absurd z.1 (by decide))]
    exact Or.inl rfl
  | k + 1 => by
    have ih := jm_new (w2 := w2) el d k
    rw [y_jm_s, el]
    by_cases e2 : d = (zA μ 62 0 (6 * l + k)).toNatClampNeg
    · refine Or.inr ⟨⟨k, by omega, Or.inr e2.symm⟩, ?_⟩
      split <;> (rw [l2_38, if_pos e2]; simp)
    · by_cases e1 : d = (zA μ 61 0 (6 * l + k)).toNatClampNeg
      · refine Or.inr ⟨⟨k, by omega, Or.inl e1.symm⟩, ?_⟩
        split <;> (rw [l2_38, if_neg e2, l2_38, if_pos e1]; simp)
      · have : zA (if (w2 >>> (nI k &&& 31)) &&& 1 = 1 then y_l2 (y_l2 (y_jm μ w1 w2 k) (zA μ 61 0 (6 * l + k)).toNatClampNeg 111 1) (zA μ 62 0 (6 * l + k)).toNatClampNeg 111 1 else y_l2 (y_l2 (y_jm μ w1 w2 k) (zA μ 61 0 (6 * l + k)).toNatClampNeg 111 1) (zA μ 62 0 (6 * l + k)).toNatClampNeg 107 0) 38 0 d = zA (y_jm μ w1 w2 k) 38 0 d := by
          split <;> rw [l2_38, if_neg e2, l2_38, if_neg e1]
        rw [this]
        rcases ih with h | ⟨⟨q, hq, h1⟩, h2⟩
        · exact Or.inl h
        · exact Or.inr ⟨⟨q, by omega, h1⟩, h2⟩
def g_11 (μ : zS) (w1 w2 : Int32) : zS := y_jm μ w1 w2 (zA μ 59 0 w1.toNatClampNeg).toNatClampNeg
theorem zr_fits (h : zsim σ μ τ) (hm : ymod μ τ) {l : Nat} {w1 : Int32} (el : w1.toNatClampNeg = l) (hl1 : l < zn μ 842) : zall (k_fits σ w1) (zI σ 400 l).toNatClampNeg = y_areFit μ l := by
  obtain ⟨hn, hg, hmm, hc, he, hw, hh, hp, hr, hl, hf⟩ := id h
  obtain ⟨n1, n2, n3, n4, n5, n6, n7, n8, n9⟩ := id hn
  obtain ⟨mn, md, ms, mw, mk, mp, ml, mx, mf, mz, t0, tc, tf, tx, mb⟩ := id hm
  obtain ⟨b1, b2, b3, b4, b5⟩ := id mn
  have hb2 := b2.2
  obtain ⟨z1, z2, z3⟩ := hl l hl1
  obtain ⟨a, ha, ea, e60, hq⟩ := ml l hl1
  unfold y_areFit
  rw [z1]
  refine zall_congr (fun i hi => ?_)
  unfold k_fits
  rw [el]
  obtain ⟨x1, x2⟩ := z3 i hi
  rw [ea, nI_clamp (by omega)] at hi
  obtain ⟨m, r, hm1, hr1, p1, p2, -⟩ := hq i hi
  rw [x1, x2, p1, p2, nI_clamp (by omega), nI_clamp (by omega), zr_fit h hm hm1, zr_fit h hm hr1]
theorem ok_11 (h : zsim σ μ τ) (hm : ymod μ τ) (w1 w2 : Int32) : (f_X10_jump μ w1 w2 = if k_ref σ (nI 11) w1 w2 0 0 = 0 then zpI (g_11 μ w1 w2) 838 0 0 else zpI μ 838 0 (zkc [1, 3] (k_ref σ (nI 11) w1 w2 0 0))) ∧ (k_ref σ (nI 11) w1 w2 0 0 = 0 → r_X10_jump μ w1 = k_pr σ (nI 11) w1 w2 0 0 ∧ ∃ l, l < zn μ 842 ∧ w1 = nI l ∧ zA μ 60 0 l = 0) := by
  obtain ⟨hn, hg, hmm, hc, he, hw, hh, hp, hr, hl, hf⟩ := id h
  obtain ⟨n1, n2, n3, n4, n5, n6, n7, n8, n9⟩ := id hn
  obtain ⟨mn, md, ms, mw, mk, mp, ml, mx, mf, mz, t0, tc, tf, tx, mb⟩ := id hm
  obtain ⟨b1, b2, b3, b4, b5⟩ := id mn
  rw [show nI 11 = 11 from rfl, k_ref_11, k_pr_11]
  unfold r_X8_refusalOf_11 r_X8_ofJump r_X8_ofLeave
  rw [zr_has_l h hm]
  have dead : ∀ (k : Nat) {j : Nat} {P : Prop} {X : zS}, ¬ k = 0 → y_jr μ w1 = j → (j = 1 ∧ k = 1 ∨ j = 2 ∧ k = 3) → (f_X10_jump μ w1 w2 = if k = 0 then X else zpI μ 838 0 (zkc [1, 3] k)) ∧ (k = 0 → P) := fun k j P X n0 e1 e2 => by
    refine ⟨?_, fun z => absurd z n0⟩
    unfold f_X10_jump
    rw [if_neg n0, e1]
    rcases e2 with ⟨rfl, rfl⟩ | ⟨rfl, rfl⟩
    · rw [if_neg (by decide), if_pos rfl]; rfl
    · rw [if_neg (by decide), if_neg (by decide)]; rfl
  have t0' : ¬ ((1 : Nat) = 0) := by decide
  have t3 : ¬ ((3 : Nat) = 0) := by decide
  cases h1 : y_has μ 842 w1
  · rw [if_neg (show ¬ (false = true) by decide), if_neg t0']
    exact dead 1 (by decide) (by unfold y_jr; rw [if_neg (by rw [h1]; decide)]) (Or.inl ⟨rfl, rfl⟩)
  · obtain ⟨l, hl1, rfl⟩ := yhas_lt b4 (by decide) h1
    have hb4 := b4.2
    have el : (nI l).toNatClampNeg = l := nI_clamp (by omega)
    obtain ⟨z1, z2, z3⟩ := hl l hl1
    obtain ⟨a, ha, ea, e60, hq⟩ := ml l hl1
    have hf' := zr_fits h hm el hl1
    rw [if_pos (show (true = true) from rfl), el, hf', z1, z2]
    by_cases c1 : zA μ 59 0 l = 0
    · rw [if_pos c1, if_neg t3]
      exact dead 3 (by decide) (by unfold y_jr; rw [if_pos h1, el, if_pos (Or.inl c1)]) (Or.inr ⟨rfl, rfl⟩)
    · rw [if_neg c1]
      by_cases c2 : zA μ 60 0 l = 0
      · have c3 : ¬ zA μ 60 0 l = 1 := by rw [c2]; decide
        rw [if_pos c2, if_pos (show (0 : Nat) = 0 from rfl)]
        cases c4 : y_areFit μ l
        · rw [if_neg (show ¬ (false = true) by decide)]
          exact dead 3 (by decide) (by unfold y_jr; rw [if_pos h1, el, if_pos (Or.inr (Or.inr c4))]) (Or.inr ⟨rfl, rfl⟩)
        · have ej : y_jr μ (nI l) = 0 := by
            unfold y_jr
            rw [if_pos h1, el, if_neg (fun z => z.elim c1 (fun z => z.elim c3 (fun z => by rw [c4] at z; exact absurd z (by decide))))]
          rw [if_pos (show (true = true) from rfl), if_pos rfl]
          unfold f_X10_jump r_X10_jump g_11
          rw [if_pos ej, if_pos ej]
          refine ⟨rfl, fun _ => ⟨?_, l, hl1, rfl, c2⟩⟩
          unfold r_X5_perform_11 r_X5_letJump
          rw [el]
          exact z1.symm
      · have c3 : zA μ 60 0 l = 1 := e60.resolve_left c2
        rw [if_neg c2, if_neg t3]
        exact dead 3 (by decide) (by unfold y_jr; rw [if_pos h1, el, if_pos (Or.inr (Or.inl c3))]) (Or.inr ⟨rfl, rfl⟩)
theorem sm_11 (h : zsim σ μ τ) (hm : ymod μ τ) (hN : zn τ 512 < 512) {w1 w2 : Int32} (h0 : k_ref σ (nI 11) w1 w2 0 0 = 0) : zsim (k_pf σ (nI 11) w1 w2 0 0) (g_11 μ w1 w2) (zt1 τ) ∧ ymod (g_11 μ w1 w2) (zt1 τ) := by
  obtain ⟨-, l, hl1, rfl, e60⟩ := (ok_11 h hm w1 w2).2 h0
  obtain ⟨hn, hg, hmm, hc, he, hw, hh, hp, hr, hl, hf⟩ := id h
  obtain ⟨n1, n2, n3, n4, n5, n6, n7, n8, n9⟩ := id hn
  obtain ⟨mn, md, ms, mw, mk, mp, ml, mx, mf, mz, t0, tc, tf, tx, mb⟩ := id hm
  obtain ⟨b1, b2, b3, b4, b5⟩ := id mn
  have hb2 := b2.2
  have hb4 := b4.2
  have el : (nI l).toNatClampNeg = l := nI_clamp (by omega)
  obtain ⟨z1, z2, z3⟩ := hl l hl1
  obtain ⟨a, ha, ea, -, hq⟩ := ml l hl1
  have ac : (zA μ 59 0 l).toNatClampNeg = a := by rw [ea, nI_clamp (by omega)]
  have aσ : (zI (zpI σ 512 0 (zI σ 512 0 + 1)) 400 l).toNatClampNeg = a := (congrArg Int32.toNatClampNeg z1).trans ac
  rw [show nI 11 = 11 from rfl, k_pf_11]
  unfold f_X5_perform_11 f_X5_letJump g_11
  rw [el, aσ, ac]
  have hin : ∀ q, q < a → (zA μ 61 0 (6 * l + q)).toNatClampNeg < zn μ 840 ∧ (zA μ 62 0 (6 * l + q)).toNatClampNeg < zn μ 840 := fun q hqa => by
    obtain ⟨m, r, hm1, hr1, p1, p2, -⟩ := hq q hqa
    rw [p1, p2, nI_clamp (by omega), nI_clamp (by omega)]
    exact ⟨hm1, hr1⟩
  have hs := jm_sim (σ := zpI σ 512 0 (zI σ 512 0 + 1)) (μ := μ) (l := l) (w1 := nI l) (w2 := w2) el (a := a) (fun q hqa => z3 q (by rw [ac]; exact hqa)) (n := zn μ 840) (fun d hd => ⟨(hc d hd).1, (hc d hd).2.2.1⟩) hin a (Nat.le_refl _)
  have kI : ∀ f, f ≠ 105 → f ≠ 113 → ∀ i, zI (k_jmp (zpI σ 512 0 (zI σ 512 0 + 1)) l w2 a) f i = zI (zpI σ 512 0 (zI σ 512 0 + 1)) f i := fun f x1 x2 i => k_jmp_I _ l w2 f i ⟨x1, x2⟩ a
  have kA : ∀ f i j, zA (k_jmp (zpI σ 512 0 (zI σ 512 0 + 1)) l w2 a) f i j = zA σ f i j := fun f i j => k_jmp_A _ l w2 f i j a
  have kL : ∀ f i, zL (k_jmp (zpI σ 512 0 (zI σ 512 0 + 1)) l w2 a) f i = zL σ f i := fun f i => k_jmp_L _ l w2 f i a
  have jI : ∀ f i, zI (y_jm μ (nI l) w2 a) f i = zI μ f i := fun f i => y_jm_I μ (nI l) w2 f i a
  have jL : ∀ f i, zL (y_jm μ (nI l) w2 a) f i = zL μ f i := fun f i => y_jm_L μ (nI l) w2 f i a
  have jA : ∀ g, g ≠ 38 → g ≠ 42 → g ≠ 60 → ∀ j, zA (y_jm μ (nI l) w2 a) g 0 j = zA μ g 0 j := fun g x1 x2 x3 j => y_jm_A μ (nI l) w2 g 0 j ⟨x1, x2, x3⟩ a
  have j60 : ∀ d, zA (y_jm μ (nI l) w2 a) 60 0 d = if d = l then 1 else zA μ 60 0 d := fun d => by rw [y_jm_60, el]
  have jn : ∀ f, zn (y_jm μ (nI l) w2 a) f = zn μ f := fun f => by unfold zn; rw [jI]
  have hkeep := fun d => jm_keep (μ := μ) (l := l) (w1 := nI l) (w2 := w2) el (d := d) a
  have hnew := fun d => jm_new (μ := μ) (l := l) (w1 := nI l) (w2 := w2) el d a
  generalize y_jm μ (nI l) w2 a = ν at hs jI jL jA j60 jn hkeep hnew ⊢
  generalize k_jmp (zpI σ 512 0 (zI σ 512 0 + 1)) l w2 a = ρ at hs kI kA kL ⊢
  have hsc : zsc μ ν := fun d => by
    rcases hnew d with e | ⟨⟨q, hqa, e⟩, e2⟩
    · exact Or.inl e
    · refine Or.inr ?_
      obtain ⟨m, r, hm1, hr1, p1, p2, p3, p4, p5⟩ := hq q hqa
      obtain ⟨p6, p7⟩ := p5 e60
      rw [p1, p2, nI_clamp (by omega), nI_clamp (by omega)] at e
      rcases e with rfl | rfl
      · exact ⟨hm1, Or.inl p6, e2⟩
      · exact ⟨hr1, Or.inl p7, e2⟩
  have kx : ∀ f, f ≠ 105 → f ≠ 113 → f ≠ 401 → f ≠ 512 → ∀ i, zI (zpI ρ 401 l 1) f i = zI σ f i := fun f x1 x2 x3 x4 i => by
    rw [zI_pI, if_neg (fun z => x3 z.1), kI f x1 x2, zI_pI, if_neg (fun z => x4 z.1)]
  have out : ∀ d, zn μ 840 ≤ d → zA ν 38 0 d = zA μ 38 0 d ∧ zA ν 42 0 d = zA μ 42 0 d := fun d hd => hkeep d (fun q hqa => ⟨fun z => by have := (hin q hqa).1; omega, fun z => by have := (hin q hqa).2; omega⟩)
  have ehE : ∀ c n, y_hE ν c n = y_hE μ c n := fun c n => by unfold y_hE; simp only [jA 55 (by decide) (by decide) (by decide), jA 56 (by decide) (by decide) (by decide)]
  have eaE : ∀ c n, y_aE ν c n = y_aE μ c n := fun c n => by unfold y_aE y_hnd; simp only [jA 55 (by decide) (by decide) (by decide), jA 58 (by decide) (by decide) (by decide)]
  have ecp : ∀ c n, y_cp ν c n = y_cp μ c n := fun c n => by unfold y_cp; simp only [jA 55 (by decide) (by decide) (by decide)]
  refine ⟨⟨⟨?_, ?_, ?_, ?_, ?_, ?_, ?_, ?_, ?_⟩, fun d hd => ?_, fun d hd => ?_, fun d hd => ?_, fun d hd => ?_, sc_zw hsc hw (jn 840) (fun k hk i => by rcases hk with rfl | rfl | rfl <;> exact jA _ (by decide) (by decide) (by decide) i) (fun k hk i => by rcases hk with rfl | rfl <;> exact kx _ (by decide) (by decide) (by decide) (by decide) i) (fun i j => by rw [zA_pI]; exact kA 12 i j), sc_zh hsc hh (jn 840) (fun k hk i => by rcases hk with rfl | rfl <;> exact jA _ (by decide) (by decide) (by decide) i) (fun k hk i => by rcases hk with rfl | rfl <;> exact kx _ (by decide) (by decide) (by decide) (by decide) i), fun d hd => ?_, fun d hd => ?_, fun d hd => ?_, fun d hd => ?_⟩, ?_⟩
  · rw [jI, kx 505 (by decide) (by decide) (by decide) (by decide)]; exact n1
  · rw [jI, kx 506 (by decide) (by decide) (by decide) (by decide)]; exact n2
  · rw [jI, kx 0 (by decide) (by decide) (by decide) (by decide)]; exact n3
  · rw [jI, kx 507 (by decide) (by decide) (by decide) (by decide)]; exact n4
  · rw [jI, kx 508 (by decide) (by decide) (by decide) (by decide)]; exact n5
  · rw [jI, kx 509 (by decide) (by decide) (by decide) (by decide)]; exact n6
  · rw [jI, kx 510 (by decide) (by decide) (by decide) (by decide)]; exact n7
  · rw [jL, zL_pI, kL]; exact n8
  · rw [zI_pI, if_neg (fun z => absurd z.1 (by decide)), kI 512 (by decide) (by decide)]
    show zI σ 512 0 + 1 = zI τ 512 0 + 1
    rw [n9]
  · rw [jn] at hd
    rw [kx 600 (by decide) (by decide) (by decide) (by decide), kx 601 (by decide) (by decide) (by decide) (by decide), jA 31 (by decide) (by decide) (by decide), jA 32 (by decide) (by decide) (by decide)]
    exact hg d hd
  · rw [jn] at hd
    rw [kx 100 (by decide) (by decide) (by decide) (by decide), kx 101 (by decide) (by decide) (by decide) (by decide), kx 102 (by decide) (by decide) (by decide) (by decide), kx 103 (by decide) (by decide) (by decide) (by decide), kx 104 (by decide) (by decide) (by decide) (by decide), jA 33 (by decide) (by decide) (by decide), jA 34 (by decide) (by decide) (by decide), jA 35 (by decide) (by decide) (by decide), jA 36 (by decide) (by decide) (by decide), jA 37 (by decide) (by decide) (by decide)]
    exact hmm d hd
  · rw [jn] at hd
    obtain ⟨x1, x2⟩ := hs d hd
    rw [jA 41 (by decide) (by decide) (by decide), jA 43 (by decide) (by decide) (by decide), jA 44 (by decide) (by decide) (by decide), zI_pI, if_neg (fun z => absurd z.1 (by decide)), kx 110 (by decide) (by decide) (by decide) (by decide), kx 114 (by decide) (by decide) (by decide) (by decide), kx 115 (by decide) (by decide) (by decide) (by decide), kx 116 (by decide) (by decide) (by decide) (by decide), kx 117 (by decide) (by decide) (by decide) (by decide)]
    obtain ⟨y1, y2, y3, y4, y5, y6, y7⟩ := hc d hd
    refine ⟨x1, y2, ?_, y4, y5, y6, y7⟩
    rw [zI_pI, if_neg (fun z => absurd z.1 (by decide))]
    exact x2
  · rw [jn] at hd
    rw [kx 109 (by decide) (by decide) (by decide) (by decide), kx 111 (by decide) (by decide) (by decide) (by decide), zL_pI, kL, ehE, eaE, ecp, jn]
    exact he d hd
  · rw [jn] at hd
    rw [zA_pI, zA_pI, zA_pI, kA, kA, kA, jA 55 (by decide) (by decide) (by decide), jA 56 (by decide) (by decide) (by decide), jA 57 (by decide) (by decide) (by decide)]
    exact hp d hd
  · rw [jn] at hd
    rw [zA_pI, kA, jA 58 (by decide) (by decide) (by decide)]
    exact hr d hd
  · rw [jn] at hd
    obtain ⟨y1, y2, y3⟩ := hl d hd
    rw [jA 59 (by decide) (by decide) (by decide), j60, kx 400 (by decide) (by decide) (by decide) (by decide)]
    refine ⟨y1, ?_, fun q hqa => ?_⟩
    · by_cases e : d = l
      · rw [if_pos e, zI_pI, if_pos ⟨rfl, e⟩]
      · rw [if_neg e, zI_pI, if_neg (fun z => e z.2), kI 401 (by decide) (by decide), zI_pI, if_neg (fun z => absurd z.1 (by decide))]
        exact y2
    · rw [zA_pI, zA_pI, kA, kA, jA 61 (by decide) (by decide) (by decide), jA 62 (by decide) (by decide) (by decide)]
      exact y3 q hqa
  · rw [jn] at hd
    rw [kx 300 (by decide) (by decide) (by decide) (by decide), kx 301 (by decide) (by decide) (by decide) (by decide), kx 302 (by decide) (by decide) (by decide) (by decide), kx 303 (by decide) (by decide) (by decide) (by decide), kx 304 (by decide) (by decide) (by decide) (by decide), kx 305 (by decide) (by decide) (by decide) (by decide), kx 306 (by decide) (by decide) (by decide) (by decide), jA 63 (by decide) (by decide) (by decide), jA 64 (by decide) (by decide) (by decide), jA 66 (by decide) (by decide) (by decide), jA 67 (by decide) (by decide) (by decide), jA 68 (by decide) (by decide) (by decide)]
    exact hf d hd
  · refine ymod_tick hm hN ?_ ?_ (sc_s hsc ms (jn 840)) (sc_w hsc mw (jn 840) (fun k hk i => by rcases hk with rfl | rfl | rfl <;> exact jA _ (by decide) (by decide) (by decide) i)) (sc_k hsc mk (jn 841) (jn 840) (fun i => jA 41 (by decide) (by decide) (by decide) i)) ?_ ?_ ?_ ?_ (sc_z mz (jn 840) (jn 842) (jn 843) ?_ ?_ (fun d => jA 68 (by decide) (by decide) (by decide) d)) (jn 840) (jn 843) (fun k hk c => by rcases hk with rfl | rfl | rfl | rfl | rfl | rfl | rfl | rfl | rfl <;> exact jA _ (by decide) (by decide) (by decide) c) (jI 846 0) (sc_b hsc mb (jn 841) (jn 840) (fun i => jA 40 (by decide) (by decide) (by decide) i))
    · exact ⟨zbd_eq (jI 839 0) b1, zbd_eq (jI 840 0) b2, zbd_eq (jI 841 0) b3, zbd_eq (jI 842 0) b4, zbd_eq (jI 843 0) b5⟩
    · unfold ym_d
      rw [jI, jI]
      exact md
    · intro d hd
      rw [jn] at hd
      rw [jn, jA 55 (by decide) (by decide) (by decide), jA 56 (by decide) (by decide) (by decide), jA 57 (by decide) (by decide) (by decide)]
      simp only [jA 58 (by decide) (by decide) (by decide)]
      exact mp d hd
    · intro d hd
      rw [jn] at hd
      obtain ⟨b, hb, eb, f60, hqb⟩ := ml d hd
      rw [jA 59 (by decide) (by decide) (by decide), j60, jn]
      simp only [jA 61 (by decide) (by decide) (by decide), jA 62 (by decide) (by decide) (by decide), jA 33 (by decide) (by decide) (by decide)]
      by_cases e : d = l
      · rw [if_pos e]
        refine ⟨b, hb, eb, Or.inr rfl, fun q hq1 => ?_⟩
        obtain ⟨m, r, hm1, hr1, p1, p2, p3, p4, -⟩ := hqb q hq1
        exact ⟨m, r, hm1, hr1, p1, p2, p3, p4, fun z => absurd z (by decide)⟩
      · rw [if_neg e]
        refine ⟨b, hb, eb, f60, fun q hq1 => ?_⟩
        obtain ⟨m, r, hm1, hr1, p1, p2, p3, p4, p5⟩ := hqb q hq1
        refine ⟨m, r, hm1, hr1, p1, p2, p3, p4, fun z => ?_⟩
        obtain ⟨p6, p7⟩ := p5 z
        have key : ∀ q', q' < a → zA μ 61 0 (6 * l + q') ≠ nI m ∧ zA μ 62 0 (6 * l + q') ≠ nI r := fun q' hq' => by
          have hx := mx d l hd hl1 z e60 q q' (by rw [eb, nI_clamp (by omega)]; exact hq1) (by rw [ac]; exact hq')
          rw [p1, p2] at hx
          exact ⟨fun y => e (hx (Or.inl y.symm)).1, fun y => e (hx (Or.inr y.symm)).1⟩
        have k1 : ∀ q', q' < a → (zA μ 61 0 (6 * l + q')).toNatClampNeg ≠ m ∧ (zA μ 62 0 (6 * l + q')).toNatClampNeg ≠ m := fun q' hq' => by
          obtain ⟨m', r', hm', hr', s1, s2, s3, s4, -⟩ := hq q' hq'
          have := key q' hq'
          rw [s1, s2] at this
          rw [s1, s2, nI_clamp (by omega), nI_clamp (by omega)]
          exact ⟨fun y => this.1 (by rw [y]), fun y => by rw [y, p3] at s4; exact absurd s4 (by decide)⟩
        have k2 : ∀ q', q' < a → (zA μ 61 0 (6 * l + q')).toNatClampNeg ≠ r ∧ (zA μ 62 0 (6 * l + q')).toNatClampNeg ≠ r := fun q' hq' => by
          obtain ⟨m', r', hm', hr', s1, s2, s3, s4, -⟩ := hq q' hq'
          have := key q' hq'
          rw [s1, s2] at this
          rw [s1, s2, nI_clamp (by omega), nI_clamp (by omega)]
          exact ⟨fun y => by rw [y, p4] at s3; exact absurd s3 (by decide), fun y => this.2 (by rw [y])⟩
        rw [(hkeep m k1).1, (hkeep r k2).1]
        exact ⟨p6, p7⟩
    · intro d d' hd hd' z z' q q' hq1 hq2 e
      rw [jn] at hd hd'
      rw [j60] at z z'
      rw [jA 59 (by decide) (by decide) (by decide)] at hq1 hq2
      rw [jA 61 (by decide) (by decide) (by decide), jA 62 (by decide) (by decide) (by decide), jA 61 (by decide) (by decide) (by decide), jA 62 (by decide) (by decide) (by decide)] at e
      by_cases x1 : d = l
      · rw [if_pos x1] at z; exact absurd z (by decide)
      · by_cases x2 : d' = l
        · rw [if_pos x2] at z'; exact absurd z' (by decide)
        · rw [if_neg x1] at z
          rw [if_neg x2] at z'
          exact mx d d' hd hd' z z' q q' hq1 hq2 e
    · intro d hd
      rw [jn] at hd
      rw [jn, jn, jA 63 (by decide) (by decide) (by decide), jA 64 (by decide) (by decide) (by decide), jA 68 (by decide) (by decide) (by decide), jA 66 (by decide) (by decide) (by decide)]
      exact mf d hd
    · intro k hk d hd
      by_cases k38 : k = 38
      · rw [k38]; exact (out d hd).1
      · by_cases k42 : k = 42
        · rw [k42]; exact (out d hd).2
        · exact jA k k38 k42 (by omega) d
    · intro k hk d hd
      by_cases k60 : k = 60
      · rw [k60, j60, if_neg (by omega)]
      · exact jA k (by omega) (by omega) k60 d
end ZAM
