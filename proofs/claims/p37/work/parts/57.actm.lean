section ZAP
variable {σ μ τ : zS}
/-- a step that finishes the packing -/
theorem sm_6b (h : zsim σ μ τ) (hm : ymod μ τ) (hN : zn τ 512 < 512) {c g : Nat} (hc1 : c < zn μ 840) (hg8 : g < 8) (s : zA μ 38 0 c = 112) (e40 : zA μ 40 0 c = nI 4) : zsim (s_fin (s_6a (zpI σ 512 0 (zI σ 512 0 + 1)) c 4 (nI g)) c (zn μ 841) (nI c)) (y_fin (g_6a μ c 4 g) c (zn μ 841)) (zt1 τ) ∧ ymod (y_fin (g_6a μ c 4 g) c (zn μ 841)) (zt1 τ) := by
  obtain ⟨hn, hg, hmm, hc, he, hw, hh, hp, hr, hl, hf⟩ := id h
  obtain ⟨n1, n2, n3, n4, n5, n6, n7, n8, n9⟩ := id hn
  obtain ⟨mn, md, ms, mw, mk, mp, ml, mx, mf, mz, t0, tc, tf, tx, mb⟩ := id hm
  obtain ⟨b1, b2, b3, b4, b5⟩ := id mn
  have hb2 := b2.2
  have hnp := np_lt hm hN
  obtain ⟨⟨hk0, hk6, ehk⟩, -, -, -, -⟩ := mw c hc1 s
  have mwc := (mw c hc1 s).2
  obtain ⟨w106, w107, w12⟩ := (hw c hc1).1 s
  have w12' : ∀ q, q < 4 → zA σ 12 c q = zA μ 54 0 (5 * c + q) := fun q hq => w12 q (by rw [e40, nI_clamp (by decide)]; exact hq)
  obtain ⟨kc, hkc, ekc, w54⟩ := mwc
  have : kc = 4 := by
    rw [e40] at ekc
    have := congrArg Int32.toNatClampNeg ekc
    rw [nI_clamp (by omega), nI_clamp (by omega)] at this
    exact this.symm
  subst this
  have en : zI μ 841 0 = nI (zn μ 841) := b3.1
  generalize hnpe : zn μ 841 = np at *
  -- the model's side
  have νI : ∀ f, f ≠ 841 → ∀ i, zI (y_fin (g_6a μ c 4 g) c np) f i = zI μ f i := fun f hf i => by unfold y_fin g_6a; simp [zI_pI, zI_pL, zI_pA, zL_pI, zL_pL, zL_pA, zA_pI, zA_pL, zA_pA, hf]
  have ν841 : zI (y_fin (g_6a μ c 4 g) c np) 841 0 = nI (np + 1) := by unfold y_fin; simp [zI_pI, zI_pL, zI_pA, zL_pI, zL_pL, zL_pA, zA_pI, zA_pL, zA_pA]
  have νL : ∀ f i, zL (y_fin (g_6a μ c 4 g) c np) f i = zL μ f i := fun f i => rfl
  have νA : ∀ k, k ≠ 38 → k ≠ 40 → k ≠ 41 → k ≠ 54 → k ≠ 55 → k ≠ 56 → k ≠ 57 → k ≠ 58 → ∀ d, zA (y_fin (g_6a μ c 4 g) c np) k 0 d = zA μ k 0 d := fun k h1 h2 h3 h4 h5 h6 h7 h8 d => by unfold y_fin g_6a; simp [zI_pI, zI_pL, zI_pA, zL_pI, zL_pL, zL_pA, zA_pI, zA_pL, zA_pA, h1, h2, h3, h4, h5, h6, h7, h8]
  have ν38 : ∀ d, zA (y_fin (g_6a μ c 4 g) c np) 38 0 d = if d = c then 107 else zA μ 38 0 d := fun d => by
    unfold y_fin g_6a
    by_cases e : d = c <;> simp [zI_pI, zI_pL, zI_pA, zL_pI, zL_pL, zL_pA, zA_pI, zA_pL, zA_pA, e]
  have ν40 : ∀ d, d ≠ c → zA (y_fin (g_6a μ c 4 g) c np) 40 0 d = zA μ 40 0 d := fun d hd => by unfold y_fin g_6a; simp [zI_pI, zI_pL, zI_pA, zL_pI, zL_pL, zL_pA, zA_pI, zA_pL, zA_pA, hd]
  have ν41 : ∀ d, zA (y_fin (g_6a μ c 4 g) c np) 41 0 d = if d = c then nI np else zA μ 41 0 d := fun d => by
    unfold y_fin g_6a
    by_cases e : d = c <;> simp [zI_pI, zI_pL, zI_pA, zL_pI, zL_pL, zL_pA, zA_pI, zA_pL, zA_pA, e]
  have ν54 : ∀ d, d ≠ 5 * c + 4 → zA (y_fin (g_6a μ c 4 g) c np) 54 0 d = zA μ 54 0 d := fun d hd => by unfold y_fin g_6a; simp [zI_pI, zI_pL, zI_pA, zL_pI, zL_pL, zL_pA, zA_pI, zA_pL, zA_pA, hd]
  have ν55 : ∀ d, zA (y_fin (g_6a μ c 4 g) c np) 55 0 d = if d = np then nI c else zA μ 55 0 d := fun d => by
    unfold y_fin g_6a
    by_cases e : d = np <;> simp [zI_pI, zI_pL, zI_pA, zL_pI, zL_pL, zL_pA, zA_pI, zA_pL, zA_pA, e]
  have ν56 : ∀ d, zA (y_fin (g_6a μ c 4 g) c np) 56 0 d = if d = np then zA μ 39 0 c else zA μ 56 0 d := fun d => by
    unfold y_fin g_6a
    by_cases e : d = np <;> simp [zI_pI, zI_pL, zI_pA, zL_pI, zL_pL, zL_pA, zA_pI, zA_pL, zA_pA, e]
  have ν57 : ∀ d, zA (y_fin (g_6a μ c 4 g) c np) 57 0 d = if d = np then zI μ 844 0 else zA μ 57 0 d := fun d => by
    unfold y_fin g_6a
    by_cases e : d = np <;> simp [zI_pI, zI_pL, zI_pA, zL_pI, zL_pL, zL_pA, zA_pI, zA_pL, zA_pA, e]
  have ν58l : ∀ d, d < np * 5 → zA (y_fin (g_6a μ c 4 g) c np) 58 0 d = zA μ 58 0 d := fun d hd => by
    have d0 : d ≠ 5 * np := by omega
    have d1 : d ≠ 5 * np + 1 := by omega
    have d2 : d ≠ 5 * np + 2 := by omega
    have d3 : d ≠ 5 * np + 3 := by omega
    have d4 : d ≠ 5 * np + 4 := by omega
    unfold y_fin g_6a
    simp [zI_pI, zI_pL, zI_pA, zL_pI, zL_pL, zL_pA, zA_pI, zA_pL, zA_pA, d0, d1, d2, d3, d4]
  have ν58h : ∀ q, q < 5 → zA (y_fin (g_6a μ c 4 g) c np) 58 0 (np * 5 + q) = if q = 4 then nI g else zA μ 54 0 (5 * c + q) := fun q hq => by
    rw [show np * 5 + q = 5 * np + q by omega]
    unfold y_fin g_6a
    rcases (show q = 0 ∨ q = 1 ∨ q = 2 ∨ q = 3 ∨ q = 4 by omega) with rfl | rfl | rfl | rfl | rfl <;> simp [zI_pI, zI_pL, zI_pA, zL_pI, zL_pL, zL_pA, zA_pI, zA_pL, zA_pA]
  generalize y_fin (g_6a μ c 4 g) c np = ν at *
  -- the class's side
  have S12 : ∀ d q, zA (s_6a (zpI σ 512 0 (zI σ 512 0 + 1)) c 4 (nI g)) 12 d q = if d = c ∧ q = 4 then nI g else zA σ 12 d q := fun d q => by
    unfold s_6a
    simp [zI_pI, zI_pL, zI_pA, zL_pI, zL_pL, zL_pA, zA_pI, zA_pL, zA_pA]
  have SA : ∀ k, k ≠ 12 → ∀ i d, zA (s_6a (zpI σ 512 0 (zI σ 512 0 + 1)) c 4 (nI g)) k i d = zA σ k i d := fun k hk i d => by
    unfold s_6a
    simp [zI_pI, zI_pL, zI_pA, zL_pI, zL_pL, zL_pA, zA_pI, zA_pL, zA_pA, hk]
  have SI : ∀ f, f ≠ 107 → f ≠ 512 → ∀ d, zI (s_6a (zpI σ 512 0 (zI σ 512 0 + 1)) c 4 (nI g)) f d = zI σ f d := fun f h1 h2 d => by
    unfold s_6a
    simp [zI_pI, zI_pL, zI_pA, zL_pI, zL_pL, zL_pA, zA_pI, zA_pL, zA_pA, h1, h2]
  have S107 : ∀ d, d ≠ c → zI (s_6a (zpI σ 512 0 (zI σ 512 0 + 1)) c 4 (nI g)) 107 d = zI σ 107 d := fun d hd => by
    unfold s_6a
    simp [zI_pI, zI_pL, zI_pA, zL_pI, zL_pL, zL_pA, zA_pI, zA_pL, zA_pA, hd]
  have S512 : zI (s_6a (zpI σ 512 0 (zI σ 512 0 + 1)) c 4 (nI g)) 512 0 = zI σ 512 0 + 1 := by
    unfold s_6a
    simp [zI_pI, zI_pL, zI_pA, zL_pI, zL_pL, zL_pA, zA_pI, zA_pL, zA_pA]
  have SL : ∀ f d, zL (s_6a (zpI σ 512 0 (zI σ 512 0 + 1)) c 4 (nI g)) f d = zL σ f d := fun f d => rfl
  generalize s_6a (zpI σ 512 0 (zI σ 512 0 + 1)) c 4 (nI g) = S at *
  have S106 := SI 106 (by decide) (by decide) c
  have S509 := SI 509 (by decide) (by decide) 0
  have S109 := SI 109 (by decide) (by decide) c
  have S111 := SI 111 (by decide) (by decide) c
  have hW9 : ∀ q, q < 5 → zA (s_wr S c np (nI c) (zI S 106 c) (zI S 509 0)) 9 0 (np * 5 + q) = zA ν 58 0 (np * 5 + q) := fun q hq => by
    rw [wr_9hi _ _ _ _ _ _ _ hq, ν58h q hq, S12]
    by_cases e : q = 4
    · rw [if_pos ⟨rfl, e⟩, if_pos e]
    · rw [if_neg (fun z => e z.2), if_neg e, w12' q (by omega)]
  have hkh : k_hands (s_wr S c np (nI c) (zI S 106 c) (zI S 509 0)) np = y_hnd ν np := by
    unfold k_hands y_hnd
    exact zorL_congr (fun q hq => by rw [hW9 q hq])
  unfold s_fin
  rw [hkh, S106, S509, S109, S111, SL]
  unfold f_X5_takeOffHook
  rw [S106, S509] at hW9
  have WI := fun f i => wr_I S c np (nI c) (zI σ 106 c) (zI σ 509 0) f i
  have WL := fun f i => wr_L S c np (nI c) (zI σ 106 c) (zI σ 509 0) f i
  have WA := fun a i j => wr_A S c np (nI c) (zI σ 106 c) (zI σ 509 0) a i j
  have W6 := fun j => wr_6 S c np (nI c) (zI σ 106 c) (zI σ 509 0) j
  have W7 := fun j => wr_7 S c np (nI c) (zI σ 106 c) (zI σ 509 0) j
  have W8 := fun j => wr_8 S c np (nI c) (zI σ 106 c) (zI σ 509 0) j
  have W9l := fun j => wr_9lo S c np (nI c) (zI σ 106 c) (zI σ 509 0) j
  generalize s_wr S c np (nI c) (zI σ 106 c) (zI σ 509 0) = W at *
  have ρo : ∀ f, f ≠ 105 → f ≠ 106 → f ≠ 107 → f ≠ 109 → f ≠ 110 → f ≠ 111 → f ≠ 512 → f ≠ 0 → ∀ d, zI (zpI (zpI (zpI (zpI (zpL (zpI (zpI (zpI W 110 c (nI np)) 109 c (zI σ 109 c + 1)) 111 c (zI σ 111 c ||| 1 <<< (zI σ 106 c &&& 31))) 112 c (zL σ 112 c ||| y_hnd ν np)) 105 c 111) 106 c (-1)) 107 c 0) 105 c 107) f d = zI σ f d := fun f h1 h2 h3 h4 h5 h6 h7 h8 d => by simp [zI_pI, zI_pL, zI_pA, zL_pI, zL_pL, zL_pA, zA_pI, zA_pL, zA_pA, h1, h2, h3, h4, h5, h6, h7, h8, WI, SI]
  have ρ0 : zI (zpI (zpI (zpI (zpI (zpL (zpI (zpI (zpI W 110 c (nI np)) 109 c (zI σ 109 c + 1)) 111 c (zI σ 111 c ||| 1 <<< (zI σ 106 c &&& 31))) 112 c (zL σ 112 c ||| y_hnd ν np)) 105 c 111) 106 c (-1)) 107 c 0) 105 c 107) 0 0 = nI (np + 1) := by simp [zI_pI, zI_pL, zI_pA, zL_pI, zL_pL, zL_pA, zA_pI, zA_pL, zA_pA, WI]
  have ρ512 : zI (zpI (zpI (zpI (zpI (zpL (zpI (zpI (zpI W 110 c (nI np)) 109 c (zI σ 109 c + 1)) 111 c (zI σ 111 c ||| 1 <<< (zI σ 106 c &&& 31))) 112 c (zL σ 112 c ||| y_hnd ν np)) 105 c 111) 106 c (-1)) 107 c 0) 105 c 107) 512 0 = zI σ 512 0 + 1 := by simp [zI_pI, zI_pL, zI_pA, zL_pI, zL_pL, zL_pA, zA_pI, zA_pL, zA_pA, WI, S512]
  have ρd : ∀ d, d ≠ c → ∀ f, f ≠ 512 → f ≠ 0 → zI (zpI (zpI (zpI (zpI (zpL (zpI (zpI (zpI W 110 c (nI np)) 109 c (zI σ 109 c + 1)) 111 c (zI σ 111 c ||| 1 <<< (zI σ 106 c &&& 31))) 112 c (zL σ 112 c ||| y_hnd ν np)) 105 c 111) 106 c (-1)) 107 c 0) 105 c 107) f d = zI σ f d := fun d hd f h1 h2 => by
    by_cases h3 : f = 107
    · subst h3
      simp [zI_pI, zI_pL, zI_pA, zL_pI, zL_pL, zL_pA, zA_pI, zA_pL, zA_pA, hd, WI, S107]
    · simp [zI_pI, zI_pL, zI_pA, zL_pI, zL_pL, zL_pA, zA_pI, zA_pL, zA_pA, hd, h1, h2, h3, WI, SI]
  have ρLc : zL (zpI (zpI (zpI (zpI (zpL (zpI (zpI (zpI W 110 c (nI np)) 109 c (zI σ 109 c + 1)) 111 c (zI σ 111 c ||| 1 <<< (zI σ 106 c &&& 31))) 112 c (zL σ 112 c ||| y_hnd ν np)) 105 c 111) 106 c (-1)) 107 c 0) 105 c 107) 112 c = zL σ 112 c ||| y_hnd ν np := by simp [zI_pI, zI_pL, zI_pA, zL_pI, zL_pL, zL_pA, zA_pI, zA_pL, zA_pA]
  have ρLo : ∀ f d, ¬ (f = 112 ∧ d = c) → zL (zpI (zpI (zpI (zpI (zpL (zpI (zpI (zpI W 110 c (nI np)) 109 c (zI σ 109 c + 1)) 111 c (zI σ 111 c ||| 1 <<< (zI σ 106 c &&& 31))) 112 c (zL σ 112 c ||| y_hnd ν np)) 105 c 111) 106 c (-1)) 107 c 0) 105 c 107) f d = zL σ f d := fun f d hd => by
    rw [zL_pI, zL_pI, zL_pI, zL_pI, zL_pL, if_neg hd, zL_pI, zL_pI, zL_pI, WL, SL]
  have ρA : ∀ k i d, zA (zpI (zpI (zpI (zpI (zpL (zpI (zpI (zpI W 110 c (nI np)) 109 c (zI σ 109 c + 1)) 111 c (zI σ 111 c ||| 1 <<< (zI σ 106 c &&& 31))) 112 c (zL σ 112 c ||| y_hnd ν np)) 105 c 111) 106 c (-1)) 107 c 0) 105 c 107) k i d = zA W k i d := fun k i d => rfl
  have ρc : zI (zpI (zpI (zpI (zpI (zpL (zpI (zpI (zpI W 110 c (nI np)) 109 c (zI σ 109 c + 1)) 111 c (zI σ 111 c ||| 1 <<< (zI σ 106 c &&& 31))) 112 c (zL σ 112 c ||| y_hnd ν np)) 105 c 111) 106 c (-1)) 107 c 0) 105 c 107) 105 c = 107 ∧ zI (zpI (zpI (zpI (zpI (zpL (zpI (zpI (zpI W 110 c (nI np)) 109 c (zI σ 109 c + 1)) 111 c (zI σ 111 c ||| 1 <<< (zI σ 106 c &&& 31))) 112 c (zL σ 112 c ||| y_hnd ν np)) 105 c 111) 106 c (-1)) 107 c 0) 105 c 107) 106 c = -1 ∧ zI (zpI (zpI (zpI (zpI (zpL (zpI (zpI (zpI W 110 c (nI np)) 109 c (zI σ 109 c + 1)) 111 c (zI σ 111 c ||| 1 <<< (zI σ 106 c &&& 31))) 112 c (zL σ 112 c ||| y_hnd ν np)) 105 c 111) 106 c (-1)) 107 c 0) 105 c 107) 107 c = 0 ∧ zI (zpI (zpI (zpI (zpI (zpL (zpI (zpI (zpI W 110 c (nI np)) 109 c (zI σ 109 c + 1)) 111 c (zI σ 111 c ||| 1 <<< (zI σ 106 c &&& 31))) 112 c (zL σ 112 c ||| y_hnd ν np)) 105 c 111) 106 c (-1)) 107 c 0) 105 c 107) 109 c = zI σ 109 c + 1 ∧ zI (zpI (zpI (zpI (zpI (zpL (zpI (zpI (zpI W 110 c (nI np)) 109 c (zI σ 109 c + 1)) 111 c (zI σ 111 c ||| 1 <<< (zI σ 106 c &&& 31))) 112 c (zL σ 112 c ||| y_hnd ν np)) 105 c 111) 106 c (-1)) 107 c 0) 105 c 107) 110 c = nI np ∧ zI (zpI (zpI (zpI (zpI (zpL (zpI (zpI (zpI W 110 c (nI np)) 109 c (zI σ 109 c + 1)) 111 c (zI σ 111 c ||| 1 <<< (zI σ 106 c &&& 31))) 112 c (zL σ 112 c ||| y_hnd ν np)) 105 c 111) 106 c (-1)) 107 c 0) 105 c 107) 111 c = zI σ 111 c ||| 1 <<< (zI σ 106 c &&& 31) := by simp [zI_pI, zI_pL, zI_pA, zL_pI, zL_pL, zL_pA, zA_pI, zA_pL, zA_pA]
  generalize zpI (zpI (zpI (zpI (zpL (zpI (zpI (zpI W 110 c (nI np)) 109 c (zI σ 109 c + 1)) 111 c (zI σ 111 c ||| 1 <<< (zI σ 106 c &&& 31))) 112 c (zL σ 112 c ||| y_hnd ν np)) 105 c 111) 106 c (-1)) 107 c 0) 105 c 107 = ρ at *
  obtain ⟨c105, c106, c107, c109, c110, c111⟩ := ρc
  have νn : ∀ f, f ≠ 841 → zn ν f = zn μ f := fun f hf => by unfold zn; rw [νI f hf]
  have νn841 : zn ν 841 = np + 1 := by unfold zn; rw [ν841, nI_clamp (by omega)]
  have ehnd : ∀ i, i < np → y_hnd ν i = y_hnd μ i := fun i hi => by
    unfold y_hnd
    exact zorL_congr (fun q hq => by rw [ν58l _ (by omega)])
  have ecp : ∀ d, y_cp ν d (np + 1) = y_cp μ d np + if nI c = nI d then 1 else 0 := fun d => by
    unfold y_cp
    rw [zct, ν55 np, if_pos rfl]
    congr 1
    · exact zct_congr (fun i hi => by rw [ν55, if_neg (by omega)])
    · by_cases e : nI c = nI d <;> simp [e]
  have ehE : ∀ d, y_hE ν d (np + 1) = y_hE μ d np ||| if nI c = nI d then 1 <<< (zA μ 39 0 c &&& 31) else 0 := fun d => by
    unfold y_hE
    rw [zorI, ν55 np, ν56 np, if_pos rfl, if_pos rfl]
    congr 1
    exact zorI_congr (fun i hi => by rw [ν55, ν56, if_neg (show ¬ i = np by omega), if_neg (show ¬ i = np by omega)])
  have eaE : ∀ d, y_aE ν d (np + 1) = y_aE μ d np ||| if nI c = nI d then y_hnd ν np else 0 := fun d => by
    unfold y_aE
    rw [zorL, ν55 np, if_pos rfl]
    congr 1
    exact zorL_congr (fun i hi => by rw [ν55, if_neg (show ¬ i = np by omega), ehnd i hi])
  have nc : ∀ d, d < zn μ 840 → d ≠ c → ¬ nI c = nI d := fun d hd hne z => by
    have := congrArg Int32.toNatClampNeg z
    rw [nI_clamp (by omega), nI_clamp (by omega)] at this
    exact hne this.symm
  refine ⟨⟨⟨?_, ?_, ?_, ?_, ?_, ?_, ?_, ?_, ?_⟩, fun d hd => ?_, fun d hd => ?_, fun d hd => ?_, fun d hd => ?_, fun d hd => ?_, fun d hd => ?_, fun d hd => ?_, fun d hd => ?_, fun d hd => ?_, fun d hd => ?_⟩, ?_⟩
  · rw [ρo 505 (by decide) (by decide) (by decide) (by decide) (by decide) (by decide) (by decide) (by decide), νI 839 (by decide)]; exact n1
  · rw [ρo 506 (by decide) (by decide) (by decide) (by decide) (by decide) (by decide) (by decide) (by decide), νI 840 (by decide)]; exact n2
  · rw [ρ0, ν841]
  · rw [ρo 507 (by decide) (by decide) (by decide) (by decide) (by decide) (by decide) (by decide) (by decide), νI 842 (by decide)]; exact n4
  · rw [ρo 508 (by decide) (by decide) (by decide) (by decide) (by decide) (by decide) (by decide) (by decide), νI 843 (by decide)]; exact n5
  · rw [ρo 509 (by decide) (by decide) (by decide) (by decide) (by decide) (by decide) (by decide) (by decide), νI 844 (by decide)]; exact n6
  · rw [ρo 510 (by decide) (by decide) (by decide) (by decide) (by decide) (by decide) (by decide) (by decide), νI 845 (by decide)]; exact n7
  · rw [ρLo 511 0 (fun z => absurd z.1 (by decide)), νL]; exact n8
  · rw [ρ512, n9]; rfl
  · rw [νn 839 (by decide)] at hd
    rw [ρo 600 (by decide) (by decide) (by decide) (by decide) (by decide) (by decide) (by decide) (by decide), ρo 601 (by decide) (by decide) (by decide) (by decide) (by decide) (by decide) (by decide) (by decide), νA 31 (by decide) (by decide) (by decide) (by decide) (by decide) (by decide) (by decide) (by decide), νA 32 (by decide) (by decide) (by decide) (by decide) (by decide) (by decide) (by decide) (by decide)]
    exact hg d hd
  · rw [νn 840 (by decide)] at hd
    rw [ρo 100 (by decide) (by decide) (by decide) (by decide) (by decide) (by decide) (by decide) (by decide), ρo 101 (by decide) (by decide) (by decide) (by decide) (by decide) (by decide) (by decide) (by decide), ρo 102 (by decide) (by decide) (by decide) (by decide) (by decide) (by decide) (by decide) (by decide), ρo 103 (by decide) (by decide) (by decide) (by decide) (by decide) (by decide) (by decide) (by decide), ρo 104 (by decide) (by decide) (by decide) (by decide) (by decide) (by decide) (by decide) (by decide), νA 33 (by decide) (by decide) (by decide) (by decide) (by decide) (by decide) (by decide) (by decide), νA 34 (by decide) (by decide) (by decide) (by decide) (by decide) (by decide) (by decide) (by decide), νA 35 (by decide) (by decide) (by decide) (by decide) (by decide) (by decide) (by decide) (by decide), νA 36 (by decide) (by decide) (by decide) (by decide) (by decide) (by decide) (by decide) (by decide), νA 37 (by decide) (by decide) (by decide) (by decide) (by decide) (by decide) (by decide) (by decide)]
    exact hmm d hd
  · rw [νn 840 (by decide)] at hd
    obtain ⟨y1, y2, y3, y4, y5, y6, y7⟩ := hc d hd
    rw [ρo 113 (by decide) (by decide) (by decide) (by decide) (by decide) (by decide) (by decide) (by decide), ρo 114 (by decide) (by decide) (by decide) (by decide) (by decide) (by decide) (by decide) (by decide), ρo 115 (by decide) (by decide) (by decide) (by decide) (by decide) (by decide) (by decide) (by decide), ρo 116 (by decide) (by decide) (by decide) (by decide) (by decide) (by decide) (by decide) (by decide), ρo 117 (by decide) (by decide) (by decide) (by decide) (by decide) (by decide) (by decide) (by decide), νA 42 (by decide) (by decide) (by decide) (by decide) (by decide) (by decide) (by decide) (by decide), νA 43 (by decide) (by decide) (by decide) (by decide) (by decide) (by decide) (by decide) (by decide), νA 44 (by decide) (by decide) (by decide) (by decide) (by decide) (by decide) (by decide) (by decide), ν38, ν41]
    refine ⟨?_, ?_, y3, y4, y5, y6, y7⟩
    · by_cases e : d = c
      · rw [if_pos e, e, c105]
      · rw [if_neg e, ρd d e 105 (by decide) (by decide)]; exact y1
    · by_cases e : d = c
      · rw [if_pos e, e, c110]
      · rw [if_neg e, ρd d e 110 (by decide) (by decide)]; exact y2
  · rw [νn 840 (by decide)] at hd
    obtain ⟨y1, y2, y3⟩ := he d hd
    rw [hnpe] at y1 y2 y3
    rw [νn841, ecp, ehE, eaE]
    by_cases e : d = c
    · subst e
      rw [c109, c111, ρLc, if_pos rfl, if_pos rfl, if_pos rfl, y1, y2, y3, w106, nI_1]
      exact ⟨rfl, rfl, rfl⟩
    · rw [if_neg (nc d hd e), if_neg (nc d hd e), if_neg (nc d hd e), ρd d e 109 (by decide) (by decide), ρd d e 111 (by decide) (by decide), ρLo 112 d (fun z => e z.2), Int32.or_zero, Int64.or_zero]
      exact ⟨y1, y2, y3⟩
  · rw [νn 840 (by decide)] at hd
    have w := hw d hd
    rw [ν38]
    by_cases e : d = c
    · subst e
      rw [if_pos rfl]
      exact ⟨fun z => absurd z (by decide), fun _ => ⟨c106, c107⟩⟩
    · rw [if_neg e, ρd d e 106 (by decide) (by decide), ρd d e 107 (by decide) (by decide), νA 39 (by decide) (by decide) (by decide) (by decide) (by decide) (by decide) (by decide) (by decide), ν40 d e]
      refine ⟨fun z => ?_, w.2⟩
      obtain ⟨w1, w2, w3⟩ := w.1 z
      obtain ⟨-, kd, hkd, ed, -⟩ := mw d hd z
      refine ⟨w1, w2, fun q hq => ?_⟩
      have hq5 : q < 5 := by
        rw [ed, nI_clamp (by omega)] at hq
        omega
      rw [ρA, WA 12 d q (by decide) (by decide) (by decide) (by decide), S12, if_neg (fun z => e z.1), ν54 _ (by omega)]
      exact w3 q hq
  · rw [νn 840 (by decide)] at hd
    have w := hh d hd
    rw [ν38, ρo 118 (by decide) (by decide) (by decide) (by decide) (by decide) (by decide) (by decide) (by decide), ρo 119 (by decide) (by decide) (by decide) (by decide) (by decide) (by decide) (by decide) (by decide), νA 52 (by decide) (by decide) (by decide) (by decide) (by decide) (by decide) (by decide) (by decide), νA 53 (by decide) (by decide) (by decide) (by decide) (by decide) (by decide) (by decide) (by decide)]
    by_cases e : d = c
    · subst e
      rw [if_pos rfl]
      exact ⟨fun z => absurd z (by decide), fun _ => w.2 (by rw [s]; decide)⟩
    · rw [if_neg e]; exact w
  · rw [νn841] at hd
    rw [ρA, ρA, ρA, W6, W7, W8, ν55, ν56, ν57]
    by_cases e : d = np
    · rw [if_pos e, if_pos e, if_pos e, if_pos e, if_pos e, if_pos e, w106]
      exact ⟨rfl, rfl, n6⟩
    · rw [if_neg e, if_neg e, if_neg e, if_neg e, if_neg e, if_neg e, SA 6 (by decide), SA 7 (by decide), SA 8 (by decide)]
      exact hp d (by omega)
  · rw [νn841] at hd
    rw [ρA]
    rcases Nat.lt_or_ge d (np * 5) with e | e
    · rw [W9l d e, ν58l d e, SA 9 (by decide)]
      exact hr d (by omega)
    · have := hW9 (d - np * 5) (by omega)
      rw [show np * 5 + (d - np * 5) = d by omega] at this
      exact this
  · rw [νn 842 (by decide)] at hd
    obtain ⟨y1, y2, y3⟩ := hl d hd
    rw [ρo 400 (by decide) (by decide) (by decide) (by decide) (by decide) (by decide) (by decide) (by decide), ρo 401 (by decide) (by decide) (by decide) (by decide) (by decide) (by decide) (by decide) (by decide), νA 59 (by decide) (by decide) (by decide) (by decide) (by decide) (by decide) (by decide) (by decide), νA 60 (by decide) (by decide) (by decide) (by decide) (by decide) (by decide) (by decide) (by decide)]
    refine ⟨y1, y2, fun q hq => ?_⟩
    rw [ρA, ρA, WA 14 d q (by decide) (by decide) (by decide) (by decide), WA 15 d q (by decide) (by decide) (by decide) (by decide), SA 14 (by decide), SA 15 (by decide), νA 61 (by decide) (by decide) (by decide) (by decide) (by decide) (by decide) (by decide) (by decide), νA 62 (by decide) (by decide) (by decide) (by decide) (by decide) (by decide) (by decide) (by decide)]
    exact y3 q hq
  · rw [νn 843 (by decide)] at hd
    rw [ρo 300 (by decide) (by decide) (by decide) (by decide) (by decide) (by decide) (by decide) (by decide), ρo 301 (by decide) (by decide) (by decide) (by decide) (by decide) (by decide) (by decide) (by decide), ρo 302 (by decide) (by decide) (by decide) (by decide) (by decide) (by decide) (by decide) (by decide), ρo 303 (by decide) (by decide) (by decide) (by decide) (by decide) (by decide) (by decide) (by decide), ρo 304 (by decide) (by decide) (by decide) (by decide) (by decide) (by decide) (by decide) (by decide), ρo 305 (by decide) (by decide) (by decide) (by decide) (by decide) (by decide) (by decide) (by decide), ρo 306 (by decide) (by decide) (by decide) (by decide) (by decide) (by decide) (by decide) (by decide), νA 63 (by decide) (by decide) (by decide) (by decide) (by decide) (by decide) (by decide) (by decide), νA 64 (by decide) (by decide) (by decide) (by decide) (by decide) (by decide) (by decide) (by decide), νA 66 (by decide) (by decide) (by decide) (by decide) (by decide) (by decide) (by decide) (by decide), νA 67 (by decide) (by decide) (by decide) (by decide) (by decide) (by decide) (by decide) (by decide), νA 68 (by decide) (by decide) (by decide) (by decide) (by decide) (by decide) (by decide) (by decide)]
    exact hf d hd
  · refine ymod_tick hm hN ?_ ?_ (ms_st (c := c) ms (νn 840 (by decide)) (fun d hd => by rw [ν38, if_neg hd]) (by rw [ν38, if_pos rfl]; simp)) ?_ ?_ ?_ (ml_st (c := c) ml (by rw [s]; decide) (νn 842 (by decide)) (νn 840 (by decide)) (fun k hk i => by rcases hk with rfl | rfl | rfl | rfl | rfl <;> exact νA _ (by decide) (by decide) (by decide) (by decide) (by decide) (by decide) (by decide) (by decide) i) (fun d hd => by rw [ν38, if_neg hd])) (mx_st mx (νn 842 (by decide)) (fun k hk i => by rcases hk with rfl | rfl | rfl | rfl | rfl <;> exact νA _ (by decide) (by decide) (by decide) (by decide) (by decide) (by decide) (by decide) (by decide) i)) ?_ (mz_st (c := c) hc1 mz (νn 840 (by decide)) (νn 842 (by decide)) (νn 843 (by decide)) ?_ (fun k hk d hd => by rcases hk with rfl | rfl <;> exact νA _ (by decide) (by decide) (by decide) (by decide) (by decide) (by decide) (by decide) (by decide) d) (fun d hd => νA 68 (by decide) (by decide) (by decide) (by decide) (by decide) (by decide) (by decide) (by decide) d)) (νn 840 (by decide)) (νn 843 (by decide)) (fun k hk c => by rcases hk with rfl | rfl | rfl | rfl | rfl | rfl | rfl | rfl | rfl <;> exact νA _ (by decide) (by decide) (by decide) (by decide) (by decide) (by decide) (by decide) (by decide) c) (νI 846 (by decide) 0) ?_
    · exact ⟨zbd_eq (νI 839 (by decide) 0) b1, zbd_eq (νI 840 (by decide) 0) b2, ⟨by rw [ν841, νn841], by rw [νn841]; omega⟩, zbd_eq (νI 842 (by decide) 0) b4, zbd_eq (νI 843 (by decide) 0) b5⟩
    · unfold ym_d
      rw [νI 844 (by decide), νI 845 (by decide)]
      exact md
    · intro d hd z
      rw [νn 840 (by decide)] at hd
      rw [ν38] at z
      by_cases e : d = c
      · rw [if_pos e] at z; exact absurd z (by decide)
      · rw [if_neg e] at z
        obtain ⟨w1, kd, hkd, ed, wq⟩ := mw d hd z
        rw [νA 39 (by decide) (by decide) (by decide) (by decide) (by decide) (by decide) (by decide) (by decide), ν40 d e]
        refine ⟨w1, kd, hkd, ed, fun q hq => ?_⟩
        rw [ν54 _ (by omega)]
        exact wq q hq
    · intro d hd
      rw [νn 840 (by decide)] at hd
      rw [ν41, νn841]
      by_cases e : d = c
      · rw [if_pos e]
        exact ⟨Or.inr ⟨np, by omega, rfl⟩, fun _ => ⟨np, by omega, rfl⟩⟩
      · obtain ⟨k1, k2⟩ := mk d hd
        rw [hnpe] at k1 k2
        rw [if_neg e]
        refine ⟨k1.imp id (fun ⟨i, hi, x⟩ => ⟨i, by omega, x⟩), fun z => ?_⟩
        unfold y_ready at z
        rw [ν38, if_neg e] at z
        obtain ⟨i, hi, x⟩ := k2 z
        exact ⟨i, by omega, x⟩
    · intro i hi
      rw [νn841] at hi
      rw [ν55, ν56, ν57, νn 840 (by decide)]
      by_cases e : i = np
      · rw [if_pos e, if_pos e, if_pos e]
        refine ⟨⟨c, hc1, rfl⟩, ⟨hk0, hk6, ehk⟩, md.1, fun q hq => ?_⟩
        rw [e, ν58h q hq]
        by_cases e4 : q = 4
        · rw [if_pos e4]; exact ⟨g, hg8, rfl⟩
        · rw [if_neg e4]; exact w54 q (by omega)
      · rw [if_neg e, if_neg e, if_neg e]
        obtain ⟨x1, x2, x3, x4⟩ := mp i (by omega)
        refine ⟨x1, x2, x3, fun q hq => ?_⟩
        rw [ν58l _ (by omega)]
        exact x4 q hq
    · intro f hf1
      rw [νn 843 (by decide)] at hf1
      obtain ⟨x1, x2, x3, x4⟩ := mf f hf1
      rw [hnpe] at x2
      rw [νn 840 (by decide), νn841, νA 63 (by decide) (by decide) (by decide) (by decide) (by decide) (by decide) (by decide) (by decide), νA 64 (by decide) (by decide) (by decide) (by decide) (by decide) (by decide) (by decide) (by decide), νA 66 (by decide) (by decide) (by decide) (by decide) (by decide) (by decide) (by decide) (by decide), νA 68 (by decide) (by decide) (by decide) (by decide) (by decide) (by decide) (by decide) (by decide)]
      exact ⟨x1, x2.imp id (fun ⟨i, hi, x⟩ => ⟨i, by omega, x⟩), x3, x4⟩
    · intro k hk d hd
      by_cases k38 : k = 38
      · rw [k38, ν38, if_neg hd]
      · exact νA k k38 (by omega) (by omega) (by omega) (by omega) (by omega) (by omega) (by omega) d
    · have wc : y_wk ν c = 0 := by
        unfold y_wk
        rw [ν38, if_pos rfl, if_neg (by decide)]
      have wc' : y_wk μ c = 5 := by
        unfold y_wk
        rw [if_pos s, e40, nI_clamp (by decide)]
      have := zsmN_upd (p := y_wk ν) (q := y_wk μ) (c := c) (fun d hd => by unfold y_wk; rw [ν38, if_neg hd, ν40 d hd]) hc1
      unfold ym_b at mb
      rw [νn841, νn 840 (by decide)]
      omega
theorem sm_6 (h : zsim σ μ τ) (hm : ymod μ τ) (hN : zn τ 512 < 512) {w1 w2 : Int32} (h0 : k_ref σ (nI 6) w1 w2 0 0 = 0) : zsim (k_pf σ (nI 6) w1 w2 0 0) (g_6 μ w1 w2) (zt1 τ) ∧ ymod (g_6 μ w1 w2) (zt1 τ) := by
  obtain ⟨-, c, k, g, hc1, hk, hg8, rfl, rfl, s, e40⟩ := (ok_6 h hm hN w1 w2).2 h0
  obtain ⟨hn, hg, hmm, hc, he, hw, hh, hp, hr, hl, hf⟩ := id h
  obtain ⟨n1, n2, n3, n4, n5, n6, n7, n8, n9⟩ := id hn
  obtain ⟨mn, md, ms, mw, mk, mp, ml, mx, mf, mz, t0, tc, tf, tx, mb⟩ := id hm
  obtain ⟨b1, b2, b3, b4, b5⟩ := id mn
  have hb2 := b2.2
  have hnp := np_lt hm hN
  have ec : (nI c).toNatClampNeg = c := nI_clamp (by omega)
  have eg : (nI g).toNatClampNeg = g := nI_clamp (by omega)
  have ek : (nI k).toNatClampNeg = k := nI_clamp (by omega)
  obtain ⟨-, e107, -⟩ := (hw c hc1).1 s
  rw [show nI 6 = 6 from rfl, k_pf_6]
  unfold f_X5_perform_6 g_6
  rw [(ds_eq (zpI σ 512 0 (zI σ 512 0 + 1)) (nI g) ec (show zI (zpI σ 512 0 (zI σ 512 0 + 1)) 107 c = nI k from e107.trans e40) (by omega)).1, ec, eg, e40, ek]
  by_cases k4 : k = 4
  · subst k4
    rw [if_neg (not_not_intro ((nI_4 hk).2.mpr rfl)), if_pos ((nI_4 hk).1.mpr rfl)]
    have e0 : zI (s_6a (zpI σ 512 0 (zI σ 512 0 + 1)) c 4 (nI g)) 0 0 = nI (zn μ 841) := by
      refine Eq.trans ?_ (n3.trans b3.1)
      unfold s_6a
      rw [zI_pI, if_neg (fun z => absurd z.1 (by decide)), zI_pA, zI_pI, if_neg (fun z => absurd z.1 (by decide))]
    rw [ep_eq _ ec e0 hnp]
    exact sm_6b h hm hN hc1 hg8 s e40
  · rw [if_pos (fun z => k4 ((nI_4 hk).2.mp z)), if_neg (fun z => k4 ((nI_4 hk).1.mp z))]
    exact sm_6a h hm hN hc1 (by omega) hg8 s e40
end ZAP
