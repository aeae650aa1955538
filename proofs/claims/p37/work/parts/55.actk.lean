section ZAN
variable {σ μ τ : zS}
/-! 6: step, and the end of a packing -/
theorem kw_o (σ : zS) (u q a i j : Nat) (ha : a ≠ 9) : ∀ k, zA (k_wr σ u q k) a i j = zA σ a i j
  | 0 => rfl
  | k + 1 => by rw [k_wr, zA_pA, if_neg (fun z => ha z.1)]; exact kw_o σ u q a i j ha k
theorem kw_L (σ : zS) (u q f i : Nat) : ∀ k, zL (k_wr σ u q k) f i = zL σ f i
  | 0 => rfl
  | k + 1 => by rw [k_wr, zL_pA]; exact kw_L σ u q f i k
theorem kw_lo (σ : zS) (u q j : Nat) (hj : j < q * 5) : ∀ k, zA (k_wr σ u q k) 9 0 j = zA σ 9 0 j
  | 0 => rfl
  | k + 1 => by rw [k_wr, zA_pA, if_neg (fun z => by have := z.2.2; omega)]; exact kw_lo σ u q j hj k
theorem kw_hi (σ : zS) (u q : Nat) : ∀ k t, t < k → zA (k_wr σ u q k) 9 0 (q * 5 + t) = zA σ 12 u t
  | 0, t, h => absurd h (Nat.not_lt_zero _)
  | k + 1, t, h => by
    rw [k_wr, zA_pA]
    by_cases e : t = k
    · rw [if_pos ⟨rfl, rfl, by omega⟩, kw_o _ _ _ _ _ _ (by decide), e]
    · rw [if_neg (fun z => by have := z.2.2; omega)]
      exact kw_hi σ u q k t (by omega)
def s_wr (σ : zS) (c np : Nat) (x hk dy : Int32) : zS := zpI (k_wr (zpA (zpA (zpA σ 6 0 np x) 7 0 np hk) 8 0 np dy) c np 5) 0 0 (nI (np + 1))
theorem wr_I (σ : zS) (c np : Nat) (x hk dy : Int32) (f i : Nat) : zI (s_wr σ c np x hk dy) f i = if f = 0 ∧ i = 0 then nI (np + 1) else zI σ f i := by
  unfold s_wr
  rw [zI_pI, k_wr_I]
  rfl
theorem wr_L (σ : zS) (c np : Nat) (x hk dy : Int32) (f i : Nat) : zL (s_wr σ c np x hk dy) f i = zL σ f i := by
  unfold s_wr
  rw [zL_pI, kw_L]
  rfl
theorem wr_A (σ : zS) (c np : Nat) (x hk dy : Int32) (a i j : Nat) (h6 : a ≠ 6) (h7 : a ≠ 7) (h8 : a ≠ 8) (h9 : a ≠ 9) : zA (s_wr σ c np x hk dy) a i j = zA σ a i j := by
  unfold s_wr
  rw [zA_pI, kw_o _ _ _ _ _ _ h9, zA_pA, if_neg (fun z => h8 z.1), zA_pA, if_neg (fun z => h7 z.1), zA_pA, if_neg (fun z => h6 z.1)]
theorem wr_6 (σ : zS) (c np : Nat) (x hk dy : Int32) (j : Nat) : zA (s_wr σ c np x hk dy) 6 0 j = if j = np then x else zA σ 6 0 j := by
  unfold s_wr
  rw [zA_pI, kw_o _ _ _ _ _ _ (by decide), zA_pA, if_neg (fun z => absurd z.1 (by decide)), zA_pA, if_neg (fun z => absurd z.1 (by decide)), zA_pA]
  by_cases e : j = np
  · rw [if_pos ⟨rfl, rfl, e⟩, if_pos e]
  · rw [if_neg (fun z => e z.2.2), if_neg e]
theorem wr_7 (σ : zS) (c np : Nat) (x hk dy : Int32) (j : Nat) : zA (s_wr σ c np x hk dy) 7 0 j = if j = np then hk else zA σ 7 0 j := by
  unfold s_wr
  rw [zA_pI, kw_o _ _ _ _ _ _ (by decide), zA_pA, if_neg (fun z => absurd z.1 (by decide)), zA_pA]
  by_cases e : j = np
  · rw [if_pos ⟨rfl, rfl, e⟩, if_pos e]
  · rw [if_neg (fun z => e z.2.2), if_neg e, zA_pA, if_neg (fun z => absurd z.1 (by decide))]
theorem wr_8 (σ : zS) (c np : Nat) (x hk dy : Int32) (j : Nat) : zA (s_wr σ c np x hk dy) 8 0 j = if j = np then dy else zA σ 8 0 j := by
  unfold s_wr
  rw [zA_pI, kw_o _ _ _ _ _ _ (by decide), zA_pA]
  by_cases e : j = np
  · rw [if_pos ⟨rfl, rfl, e⟩, if_pos e]
  · rw [if_neg (fun z => e z.2.2), if_neg e, zA_pA, if_neg (fun z => absurd z.1 (by decide)), zA_pA, if_neg (fun z => absurd z.1 (by decide))]
theorem wr_9lo (σ : zS) (c np : Nat) (x hk dy : Int32) (j : Nat) (hj : j < np * 5) : zA (s_wr σ c np x hk dy) 9 0 j = zA σ 9 0 j := by
  unfold s_wr
  rw [zA_pI, kw_lo _ _ _ _ hj, zA_pA, if_neg (fun z => absurd z.1 (by decide)), zA_pA, if_neg (fun z => absurd z.1 (by decide)), zA_pA, if_neg (fun z => absurd z.1 (by decide))]
theorem wr_9hi (σ : zS) (c np : Nat) (x hk dy : Int32) (t : Nat) (ht : t < 5) : zA (s_wr σ c np x hk dy) 9 0 (np * 5 + t) = zA σ 12 c t := by
  unfold s_wr
  rw [zA_pI, kw_hi _ _ _ _ _ ht, zA_pA, if_neg (fun z => absurd z.1 (by decide)), zA_pA, if_neg (fun z => absurd z.1 (by decide)), zA_pA, if_neg (fun z => absurd z.1 (by decide))]
theorem wr_eq (σ : zS) {c np : Nat} (x hk dy : Int32) (e : zI σ 0 0 = nI np) (hnp : np < 86) : f_X0_write σ c x hk dy = s_wr σ c np x hk dy ∧ r_X0_write σ c x hk dy = nI np := by
  have c1 : ¬ (86 : Int32) ≤ zI σ 0 0 := fun z => by
    rw [e, show (86 : Int32) = nI 86 from rfl, nI_leI (by omega) (by omega)] at z
    omega
  unfold f_X0_write r_X0_write s_wr
  rw [if_neg c1, if_neg c1, e, nI_clamp (by omega), nI_1, nI_m1]
  exact ⟨rfl, rfl⟩
def s_fin (σ : zS) (c np : Nat) (x : Int32) : zS := zpI (f_X5_takeOffHook (zpL (zpI (zpI (zpI (s_wr σ c np x (zI σ 106 c) (zI σ 509 0)) 110 c (nI np)) 109 c (zI σ 109 c + 1)) 111 c (zI σ 111 c ||| (1 <<< (zI σ 106 c &&& 31)))) 112 c (zL σ 112 c ||| k_hands (s_wr σ c np x (zI σ 106 c) (zI σ 509 0)) np)) c) 105 c 107
theorem ep_eq (σ : zS) {c np : Nat} {x : Int32} (ec : x.toNatClampNeg = c) (e : zI σ 0 0 = nI np) (hnp : np < 86) : f_X5_endPacking σ x = s_fin σ c np x := by
  obtain ⟨x1, x2⟩ := wr_eq (c := c) σ x (zI σ 106 c) (zI σ 509 0) e hnp
  unfold f_X5_endPacking
  rw [ec, x1, x2]
  have i00 : zI (s_wr σ c np x (zI σ 106 c) (zI σ 509 0)) 0 0 = nI (np + 1) := by rw [wr_I, if_pos ⟨rfl, rfl⟩]
  have zn0 : zn (s_wr σ c np x (zI σ 106 c) (zI σ 509 0)) 0 = np + 1 := by unfold zn; rw [i00, nI_clamp (by omega)]
  have hb : k_has (s_wr σ c np x (zI σ 106 c) (zI σ 509 0)) 0 (nI np) = true := zhas_nI (N := 86) ⟨by rw [i00, zn0], by omega⟩ (by decide) (by omega)
  rw [if_neg (by rw [hb]; decide), nI_clamp (by omega)]
  unfold s_fin
  have w109 := wr_I σ c np x (zI σ 106 c) (zI σ 509 0) 109 c
  have w111 := wr_I σ c np x (zI σ 106 c) (zI σ 509 0) 111 c
  have w106 := wr_I σ c np x (zI σ 106 c) (zI σ 509 0) 106 c
  have w112 := wr_L σ c np x (zI σ 106 c) (zI σ 509 0) 112 c
  rw [if_neg (fun z => absurd z.1 (by decide))] at w109 w111 w106
  generalize s_wr σ c np x (zI σ 106 c) (zI σ 509 0) = W at *
  have v1 : ∀ a, zI (zpI W 110 c a) 109 c = zI σ 109 c := fun a => by rw [zI_pI, if_neg (fun z => absurd z.1 (by decide)), w109]
  have v2 : ∀ a b, zI (zpI (zpI W 110 c a) 109 c b) 111 c = zI σ 111 c := fun a b => by rw [zI_pI, if_neg (fun z => absurd z.1 (by decide)), zI_pI, if_neg (fun z => absurd z.1 (by decide)), w111]
  have v3 : ∀ a b, zI (zpI (zpI W 110 c a) 109 c b) 106 c = zI σ 106 c := fun a b => by rw [zI_pI, if_neg (fun z => absurd z.1 (by decide)), zI_pI, if_neg (fun z => absurd z.1 (by decide)), w106]
  have v4 : ∀ a b d, zL (zpI (zpI (zpI W 110 c a) 109 c b) 111 c d) 112 c = zL σ 112 c := fun a b d => by rw [zL_pI, zL_pI, zL_pI, w112]
  have v5 : ∀ a b d, k_hands (zpI (zpI (zpI W 110 c a) 109 c b) 111 c d) np = k_hands W np := fun a b d => rfl
  rw [v1, v2, v3, v4, v5]
def s_6a (σ : zS) (c k : Nat) (y : Int32) : zS := zpI (zpA σ 12 c k y) 107 c (nI (k + 1))
theorem ds_eq (σ : zS) {c k : Nat} {x : Int32} (y : Int32) (ec : x.toNatClampNeg = c) (e : zI σ 107 c = nI k) (hk : k < 5) : f_X5_doStep σ x y = (if ¬ nI (k + 1) = 5 then s_6a σ c k y else f_X5_endPacking (s_6a σ c k y) x) ∧ r_X5_doStep σ x y = nI (k + 1) := by
  have e2 : zpI (zpA σ 12 c (nI k).toNatClampNeg y) 107 c (zI (zpA σ 12 c (nI k).toNatClampNeg y) 107 c + 1) = s_6a σ c k y := by
    unfold s_6a
    rw [zI_pA, e, nI_1, nI_clamp (by omega)]
  have e3 : zI (s_6a σ c k y) 107 c = nI (k + 1) := by
    unfold s_6a
    rw [zI_pI, if_pos ⟨rfl, rfl⟩]
  unfold f_X5_doStep r_X5_doStep
  rw [ec, e, e2, e3]
  refine ⟨rfl, ?_⟩
  split <;> rfl
def g_6a (μ : zS) (c k g : Nat) : zS := zpA (zpA μ 54 0 (5 * c + k) (nI g)) 40 0 c (nI (k + 1))
def y_fin (μ : zS) (c np : Nat) : zS := zpI (zpA (zpA (zpA (zpA (zpA (zpA (zpA (zpA (zpA (zpA μ 55 0 np (nI c)) 56 0 np (zA μ 39 0 c)) 57 0 np (zI μ 844 0)) 58 0 (5 * np + 0) (zA μ 54 0 (5 * c + 0))) 58 0 (5 * np + 1) (zA μ 54 0 (5 * c + 1))) 58 0 (5 * np + 2) (zA μ 54 0 (5 * c + 2))) 58 0 (5 * np + 3) (zA μ 54 0 (5 * c + 3))) 58 0 (5 * np + 4) (zA μ 54 0 (5 * c + 4))) 41 0 c (nI np)) 38 0 c 107) 841 0 (nI (np + 1))
theorem y5n {c j : Nat} (hc : c < 2 ^ 20) (hj : j < 6) : ((5 : Int32) * nI c + nI j).toNatClampNeg = 5 * c + j := by
  rw [nI_m5, nI_add, nI_clamp (by omega)]
set_option maxRecDepth 100000 in
set_option maxHeartbeats 4000000 in
theorem fin_eq {μ : zS} {c np : Nat} (hc : c < 24) (hnp : np < 86) (e : zI μ 841 0 = nI np) : f_X10_finishes μ (nI c) = y_fin μ c np := by
  have ec : (nI c).toNatClampNeg = c := nI_clamp (by omega)
  have en : (nI np).toNatClampNeg = np := nI_clamp (by omega)
  have a0 : ((5 : Int32) * nI np + 0).toNatClampNeg = 5 * np + 0 := y5n (j := 0) (by omega) (by decide)
  have a1 : ((5 : Int32) * nI np + 1).toNatClampNeg = 5 * np + 1 := y5n (j := 1) (by omega) (by decide)
  have a2 : ((5 : Int32) * nI np + 2).toNatClampNeg = 5 * np + 2 := y5n (j := 2) (by omega) (by decide)
  have a3 : ((5 : Int32) * nI np + 3).toNatClampNeg = 5 * np + 3 := y5n (j := 3) (by omega) (by decide)
  have a4 : ((5 : Int32) * nI np + 4).toNatClampNeg = 5 * np + 4 := y5n (j := 4) (by omega) (by decide)
  have b0 : ((5 : Int32) * nI c + 0).toNatClampNeg = 5 * c + 0 := y5n (j := 0) (by omega) (by decide)
  have b1 : ((5 : Int32) * nI c + 1).toNatClampNeg = 5 * c + 1 := y5n (j := 1) (by omega) (by decide)
  have b2 : ((5 : Int32) * nI c + 2).toNatClampNeg = 5 * c + 2 := y5n (j := 2) (by omega) (by decide)
  have b3 : ((5 : Int32) * nI c + 3).toNatClampNeg = 5 * c + 3 := y5n (j := 3) (by omega) (by decide)
  have b4 : ((5 : Int32) * nI c + 4).toNatClampNeg = 5 * c + 4 := y5n (j := 4) (by omega) (by decide)
  have o39 : ∀ k j d ρ v, k = 55 → zA (zpA ρ k j d v) 39 0 c = zA ρ 39 0 c := fun k j d ρ v hk => by rw [zA_pA, if_neg (fun z => by have := z.1; omega)]
  have o54 : ∀ k j d ρ v x, k = 55 ∨ k = 56 ∨ k = 57 ∨ k = 58 → zA (zpA ρ k j d v) 54 0 x = zA ρ 54 0 x := fun k j d ρ v x hk => by rw [zA_pA, if_neg (fun z => by have := z.1; omega)]
  have q54 : ∀ j d ρ v x, zA (zpA ρ 55 j d v) 54 0 x = zA ρ 54 0 x := fun j d ρ v x => o54 55 j d ρ v x (by simp)
  have r54 : ∀ j d ρ v x, zA (zpA ρ 56 j d v) 54 0 x = zA ρ 54 0 x := fun j d ρ v x => o54 56 j d ρ v x (by simp)
  have s54 : ∀ j d ρ v x, zA (zpA ρ 57 j d v) 54 0 x = zA ρ 54 0 x := fun j d ρ v x => o54 57 j d ρ v x (by simp)
  have t54 : ∀ j d ρ v x, zA (zpA ρ 58 j d v) 54 0 x = zA ρ 54 0 x := fun j d ρ v x => o54 58 j d ρ v x (by simp)
  have q39 : ∀ j d ρ v, zA (zpA ρ 55 j d v) 39 0 c = zA ρ 39 0 c := fun j d ρ v => o39 55 j d ρ v rfl
  unfold f_X10_finishes y_fin
  simp only [zI_pA, e, ec, en, a0, a1, a2, a3, a4, b0, b1, b2, b3, b4, q39, q54, r54, s54, t54, nI_1]
end ZAN
