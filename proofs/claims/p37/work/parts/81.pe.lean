section ZPS
variable {σ μ τ δ ν : zS} {R C L K b : Nat} {V : Nat → Int64}
/-! WHAT ASKING ANSWERS -/
theorem at_0 (h : zP R C L K b V σ δ μ τ) {c : Nat} (hc : c < C) : k_at σ (nI c) = 0 := by unfold k_at; rw [if_pos (has_c h hc)]
theorem cl_c (h : zP R C L K b V σ δ μ τ) {c : Nat} (hc : c < C) : c < zn μ 840 ∧ (nI c).toNatClampNeg = c := by
  obtain ⟨q1, q2, q3, q4, q5, q6⟩ := h.nb
  have nC := pm_nc h
  exact ⟨by omega, nI_clamp (by omega)⟩
theorem ra_st (h : zP R C L K b V σ δ μ τ) {c : Nat} (hc : c < C) : zans (k_at σ (nI c)) (zI σ 105 (nI c).toNatClampNeg) = zA μ 38 0 c := by
  obtain ⟨c1, c2⟩ := cl_c h hc
  rw [zans_0 (at_0 h hc), c2, (h.1.2.2.2.1 c c1).1]
theorem ra_ch (h : zP R C L K b V σ δ μ τ) : ∀ x, k_has σ 506 x = true → narrow .char (.int (zI σ 105 x.toNatClampNeg)) = .int (zI σ 105 x.toNatClampNeg) := fun _ hx => rd_hch h.1 h.2.1 hx
theorem st_v (h : zP R C L K b V σ δ μ τ) {c : Nat} (hc : c < C) : zA μ 38 0 c = 111 ∨ zA μ 38 0 c = 112 ∨ zA μ 38 0 c = 107 ∨ zA μ 38 0 c = 97 ∨ zA μ 38 0 c = 104 := h.2.1.2.2.1 c (cl_c h hc).1
theorem st_c (h : zP R C L K b V σ δ μ τ) {c : Nat} (hc : c < C) : ((zA μ 38 0 c).toUInt32 % 65536).toInt32 = zA μ 38 0 c := by
  rcases st_v h hc with e | e | e | e | e <;> rw [e] <;> decide
theorem ra_gr (h : zP R C L K b V σ δ μ τ) {c : Nat} (hc : c < C) : zans (k_at σ (nI c)) (bI (k_down σ (nI c).toNatClampNeg)) = bI (y_down μ c) := by
  obtain ⟨c1, c2⟩ := cl_c h hc
  rw [zans_0 (at_0 h hc), c2, zr_down h.1 h.2.1 c1]
theorem ra_ou (h : zP R C L K b V σ δ μ τ) {c : Nat} (hc : c < C) : zans (k_at σ (nI c)) (bI (k_old σ (nI c).toNatClampNeg)) = bI (y_old μ c) := by
  obtain ⟨c1, c2⟩ := cl_c h hc
  rw [zans_0 (at_0 h hc), c2, zr_old h.1 h.2.1 c1]
def pkm (μ : zS) (c : Nat) : Nat := y_cp μ c (zn μ 841)
theorem pkm_le (h : zP R C L K b V σ δ μ τ) (c : Nat) : pkm μ c ≤ 86 := Nat.le_trans (zct_le _ _) h.2.1.1.2.2.1.2
theorem ra_pk (h : zP R C L K b V σ δ μ τ) {c : Nat} (hc : c < C) : zans (k_at σ (nI c)) (zI σ 109 (nI c).toNatClampNeg) = nI (pkm μ c) := by
  obtain ⟨c1, c2⟩ := cl_c h hc
  rw [zans_0 (at_0 h hc), c2, (h.1.2.2.2.2.1 c c1).1]
  rfl
theorem ra_jm (h : zP R C L K b V σ δ μ τ) (hK : K ≤ 512) {c : Nat} (hc : c < C) : ¬ zans (k_at σ (nI c)) (zI σ 113 (nI c).toNatClampNeg) < 0 := by
  obtain ⟨c1, c2⟩ := cl_c h hc
  obtain ⟨⟨j, hj, ej⟩, -⟩ := h.2.2.2.2.2.2.2.1 c c1
  rw [zans_0 (at_0 h hc), c2, (h.1.2.2.2.1 c c1).2.2.1, ej]
  exact nI_pos (by omega)
theorem ra_sh (h : zP R 8 L K b V σ δ μ τ) {c : Nat} (hc : c < 8) : ¬ 7 < zans (k_at σ (nI c)) (nI (k_shar σ (nI c).toNatClampNeg)) := by
  obtain ⟨c1, c2⟩ := cl_c h hc
  have nC := pm_nc h
  rw [zans_0 (at_0 h hc), c2]
  have : k_shar σ c ≤ 7 := by
    unfold k_shar
    rw [zr_nc h.1, nC]
    have a1 : zct (fun i => !decide (nI i = nI c) && !decide (zI σ 111 i &&& zI σ 111 c = 0)) 8 ≤ zct (fun i => !decide (i = c)) 8 := zct_imp (fun i hi hp => by
      rw [Bool.and_eq_true] at hp
      have h1 := hp.1
      rw [Bool.not_eq_true', decide_eq_false_iff_not] at h1
      rw [Bool.not_eq_true', decide_eq_false_iff_not]
      exact fun z => h1 (by rw [z]))
    refine Nat.le_trans a1 ?_
    rcases (show c = 0 ∨ c = 1 ∨ c = 2 ∨ c = 3 ∨ c = 4 ∨ c = 5 ∨ c = 6 ∨ c = 7 by omega) with rfl | rfl | rfl | rfl | rfl | rfl | rfl | rfl <;> decide
  intro z
  have := (nI_ltI (a := 7) (b := k_shar σ c) (by decide) (by omega)).mp z
  omega
/-- what grounds answers -/
def gnd (μ : zS) (f : Nat) : Int32 := if f < zn μ 843 then nI (y_cntG μ f) else -77
theorem ra_gf (h : zP R C L K b V σ δ μ τ) {f : Nat} (hf : f < 1000) : zans (k_atF σ (nI f)) (nI (k_cntG σ (nI f).toNatClampNeg)) = gnd μ f := by
  have b5 := h.2.1.1.2.2.2.2
  have b52 := b5.2
  have ef : (nI f).toNatClampNeg = f := nI_clamp (by omega)
  unfold gnd k_atF
  by_cases hf1 : f < zn μ 843
  · rw [if_pos hf1, if_pos (zhas_nI h.zv.2.2.2.1 (by decide) (by rw [zr_nf h.1]; exact hf1)), ef, zr_cntG h.1 h.2.1 hf1]
    rfl
  · have : k_has σ 508 (nI f) = false := by
      unfold k_has
      rw [h.1.1.2.2.2.2.1, b5.1, decide_eq_true ((nI_leI (by omega) (by omega)).mpr (by omega))]
      simp
    rw [if_neg hf1, this, if_neg (by decide)]
    rfl
theorem cntG_le (h : zP R C L K b V σ δ μ τ) (f : Nat) : y_cntG μ f ≤ 24 := Nat.le_trans (zct_le _ _) h.2.1.1.2.1.2
theorem first_ok : ∀ n, (k_first σ n).1 = -1 ∨ ∃ c, c < n ∧ (k_first σ n).1 = nI c ∧ zI σ 100 c = 114 ∧ zI σ 105 c = 107 ∧ k_old σ c = false
  | 0 => Or.inl rfl
  | n + 1 => by
    have ih := first_ok n
    rw [k_first]
    generalize k_first σ n = q at ih
    obtain ⟨u, v⟩ := q
    show (if zI σ 100 n = 114 ∧ zI σ 105 n = 107 ∧ k_old σ n = false ∧ (u < 0 ∨ ¬ v ≤ k_left σ n) then (nI n, k_left σ n) else (u, v)).1 = -1 ∨ ∃ c, c < n + 1 ∧ (if zI σ 100 n = 114 ∧ zI σ 105 n = 107 ∧ k_old σ n = false ∧ (u < 0 ∨ ¬ v ≤ k_left σ n) then (nI n, k_left σ n) else (u, v)).1 = nI c ∧ _
    split
    · rename_i q
      exact Or.inr ⟨n, by omega, rfl, q.1, q.2.1, q.2.2.1⟩
    · rcases ih with ih | ⟨c, hc, e1, e2⟩
      · exact Or.inl ih
      · exact Or.inr ⟨c, by omega, e1, e2⟩
theorem ra_nx (h : zP R C L K b V σ δ μ τ) : zans (k_nxr σ) (k_nx σ) = -75 ∨ ∃ c, c < C ∧ zans (k_nxr σ) (k_nx σ) = nI c ∧ c % 2 = 1 ∧ zA μ 38 0 c = 107 ∧ y_old μ c = false := by
  have nC := pm_nc h
  obtain ⟨q1, q2, q3, q4, q5, q6⟩ := h.nb
  unfold k_nxr
  rcases first_ok (σ := σ) (zn σ 506) with e | ⟨c, hc, e, k1, k2, k3⟩
  · have e' : k_nx σ = -1 := e
    rw [e']
    exact Or.inl (zans_5 (if_pos (by decide)))
  · have e' : k_nx σ = nI c := e
    rw [zr_nc h.1, nC] at hc
    obtain ⟨c1, c2⟩ := cl_c h hc
    rw [e']
    refine Or.inr ⟨c, hc, zans_0 (if_neg (nI_pos (by omega))), ?_, ?_, ?_⟩
    · have k33 := h.2.2.2.2.2.1 c c1
      rw [← (h.1.2.2.1 c c1).1, k1] at k33
      by_cases z : c % 2 = 0
      · rw [if_pos z] at k33; exact absurd k33 (by decide)
      · omega
    · rw [← (h.1.2.2.2.1 c c1).1]; exact k2
    · rw [← zr_old h.1 h.2.1 c1]; exact k3
/-! packings by their index -/
theorem zct_up {p : Nat → Bool} {i : Nat} : ∀ {n : Nat}, i ≤ n → zct p i ≤ zct p n
  | 0, h => by rw [show i = 0 by omega]; exact Nat.le_refl _
  | n + 1, h => by
    rcases Nat.lt_or_ge n i with q | q
    · rw [show i = n + 1 by omega]; exact Nat.le_refl _
    · have := zct_up (p := p) (n := n) q
      rw [zct]; omega
theorem zct_st {p : Nat → Bool} {i j : Nat} (hp : p i = true) (h : i < j) : zct p i < zct p j := by
  have := zct_up (p := p) (i := i + 1) (n := j) h
  rw [zct, if_pos hp] at this
  omega
theorem pk_at (h : zP R C L K b V σ δ μ τ) {c n : Nat} (hn : n < pkm μ c) : ∃ i, i < zn μ 841 ∧ zA μ 55 0 i = nI c ∧ y_cp μ c i = n ∧ k_num σ (nI c) (nI n) = nI i := by
  have b3 := h.2.1.1.2.2.1.2
  obtain ⟨i, hi, h1, h2⟩ := zct_hit (p := fun i => decide (zA μ 55 0 i = nI c)) (n := zn μ 841) (t := n) hn
  have h1' : zA μ 55 0 i = nI c := of_decide_eq_true h1
  refine ⟨i, hi, h1', h2, ?_⟩
  rw [zr_num h.1]
  unfold y_num
  have hle : n ≤ 86 := by rw [← h2]; exact Nat.le_trans (zct_le _ _) (by omega)
  refine zfst_at (by omega) ?_ (fun j hj => ?_) hi
  · simp only [Bool.and_eq_true, decide_eq_true_eq]
    exact ⟨h1', by rw [h2]⟩
  · by_cases e : zA μ 55 0 j = nI c
    · have : zct (fun i => decide (zA μ 55 0 i = nI c)) j < n := by rw [← h2]; exact zct_st (p := fun i => decide (zA μ 55 0 i = nI c)) (by simp [e]) hj
      have ne : ¬ nI (zct (fun i => decide (zA μ 55 0 i = nI c)) j) = nI n := fun z => by have := nI_inj' (by omega) (by omega) z; omega
      rw [decide_eq_false ne, Bool.and_false]
    · rw [decide_eq_false e, Bool.false_and]
theorem pk_r0 (h : zP R C L K b V σ δ μ τ) {c n : Nat} (hc : c < C) (hn : n < pkm μ c) {w : Int32} (hw : w = 104 ∨ w = 100 ∨ (48 ≤ w ∧ w ≤ 52)) : k_pkr σ (nI c) (nI n) w = 0 := by
  obtain ⟨c1, c2⟩ := cl_c h hc
  have hl := pkm_le h c
  unfold k_pkr
  rw [if_pos (has_c h hc), c2, (h.1.2.2.2.2.1 c c1).1, if_neg (fun z => ?_), if_pos hw]
  rcases z with z | z
  · exact nI_pos (by omega) z
  · have := (nI_leI (a := y_cp μ c (zn μ 841)) (b := n) (by unfold pkm at hl; omega) (by omega)).mp z
    unfold pkm at hn; omega
theorem pk_end (h : zP R C L K b V σ δ μ τ) {c : Nat} (hc : c < C) (w : Int32) : zans (k_pkr σ (nI c) (nI (pkm μ c)) w) (k_look σ (nI c) (nI (pkm μ c)) w) = -77 := by
  obtain ⟨c1, c2⟩ := cl_c h hc
  refine zans_1 ?_
  unfold k_pkr
  rw [if_pos (has_c h hc), c2, (h.1.2.2.2.2.1 c c1).1, if_pos (show nI (pkm μ c) < 0 ∨ nI (y_cp μ c (zn μ 841)) ≤ nI (pkm μ c) from Or.inr (Int32.le_refl _))]
/-- the four things of a packing that the law asks for -/
theorem pk_v (h : zP R C L K b V σ δ μ τ) {c n : Nat} (hc : c < C) (hn : n < pkm μ c) : ∃ i, i < zn μ 841 ∧ y_cp μ c i = n ∧ zA μ 55 0 i = nI c ∧ zans (k_pkr σ (nI c) (nI n) 51) (k_look σ (nI c) (nI n) 51) = zA μ 58 0 (i * 5 + 3) ∧ zans (k_pkr σ (nI c) (nI n) 52) (k_look σ (nI c) (nI n) 52) = zA μ 58 0 (i * 5 + 4) ∧ zans (k_pkr σ (nI c) (nI n) 104) (k_look σ (nI c) (nI n) 104) = zA μ 56 0 i ∧ zans (k_pkr σ (nI c) (nI n) 100) (k_look σ (nI c) (nI n) 100) = zA μ 57 0 i := by
  have b3 := h.2.1.1.2.2.1.2
  obtain ⟨i, hi, e55, ecp, en⟩ := pk_at h hn
  have hh : k_has σ 0 (nI i) = true := zhas_nI h.zv.2.2.2.2.1 (by decide) (by rw [zr_np h.1]; exact hi)
  have ei : (nI i).toNatClampNeg = i := nI_clamp (by omega)
  obtain ⟨-, p7, p8⟩ := h.1.2.2.2.2.2.2.2.1 i hi
  have p9 := h.1.2.2.2.2.2.2.2.2.1
  have e5 : nI i * 5 = nI (i * 5) := by rw [show (5 : Int32) = nI 5 from rfl, pk_mul]
  refine ⟨i, hi, ecp, e55, ?_, ?_, ?_, ?_⟩
  · rw [zans_0 (pk_r0 h hc hn (Or.inr (Or.inr (by decide))))]
    unfold k_look
    rw [en, if_pos hh, if_neg (by decide), if_neg (by decide), if_neg (by decide), if_neg (by decide), e5, show (51 : Int32) - 48 = nI 3 from by decide, nI_add, nI_clamp (by omega)]
    exact p9 _ (by omega)
  · rw [zans_0 (pk_r0 h hc hn (Or.inr (Or.inr (by decide))))]
    unfold k_look
    rw [en, if_pos hh, if_neg (by decide), if_neg (by decide), if_neg (by decide), if_neg (by decide), e5, show (52 : Int32) - 48 = nI 4 from by decide, nI_add, nI_clamp (by omega)]
    exact p9 _ (by omega)
  · rw [zans_0 (pk_r0 h hc hn (Or.inl rfl))]
    unfold k_look
    rw [en, if_pos hh, if_pos rfl, ei]
    exact p7
  · rw [zans_0 (pk_r0 h hc hn (Or.inr (Or.inl rfl)))]
    unfold k_look
    rw [en, if_pos hh, if_neg (by decide), if_pos rfl, ei]
    exact p8
theorem pk_34 (h : zP R C L K b V σ δ μ τ) {c n : Nat} (hc : c < C) (hn : n < pkm μ c) : ¬ zans (k_pkr σ (nI c) (nI n) 51) (k_look σ (nI c) (nI n) 51) = zans (k_pkr σ (nI c) (nI n) 52) (k_look σ (nI c) (nI n) 52) := by
  obtain ⟨i, hi, -, -, e1, e2, -, -⟩ := pk_v h hc hn
  rw [e1, e2]
  exact (h.2.2.2.2.2.2.2.2.2.1 i hi).1
theorem pk_h (h : zP R C L K b V σ δ μ τ) {c n : Nat} (hc : c < C) (hn : n < pkm μ c) : ¬ zans (k_pkr σ (nI c) (nI n) 104) (k_look σ (nI c) (nI n) 104) < 0 ∧ ¬ 6 ≤ zans (k_pkr σ (nI c) (nI n) 104) (k_look σ (nI c) (nI n) 104) := by
  obtain ⟨i, hi, -, -, -, -, e3, -⟩ := pk_v h hc hn
  obtain ⟨-, ⟨k, hk, ek⟩, -⟩ := h.2.1.2.2.2.2.2.1 i hi
  rw [e3, ek]
  exact ⟨nI_pos (by omega), fun z => by have := (nI_leI (a := 6) (b := k) (by decide) (by omega)).mp z; omega⟩
theorem pk_d (h : zP R C L K b V σ δ μ τ) {c n : Nat} (hc : c < C) (hn : n + 1 < pkm μ c) : ¬ zans (k_pkr σ (nI c) (nI (n + 1)) 100) (k_look σ (nI c) (nI (n + 1)) 100) < zans (k_pkr σ (nI c) (nI n) 100) (k_look σ (nI c) (nI n) 100) := by
  obtain ⟨i, hi, c1, d1, -, -, -, e1⟩ := pk_v h hc hn
  obtain ⟨j, hj, c2, d2, -, -, -, e2⟩ := pk_v h hc (show n < pkm μ c by omega)
  rw [e1, e2]
  refine Int32.not_lt.mpr ((h.2.2.2.2.2.2.2.2.2.1 i hi).2.2 j ?_)
  rcases Nat.lt_or_ge i j with z | z
  · have : y_cp μ c i < y_cp μ c j := zct_st (p := fun i => decide (zA μ 55 0 i = nI c)) (by simp [d1]) z
    omega
  · exact z
theorem pk_pos (h : zP R C L K b V σ δ μ τ) {c : Nat} (hc : c < C) (s : zA μ 38 0 c = 107 ∨ zA μ 38 0 c = 97 ∨ zA μ 38 0 c = 104) : 0 < pkm μ c := by
  obtain ⟨c1, c2⟩ := cl_c h hc
  obtain ⟨i, hi, ei⟩ := h.2.2.2.2.2.2.2.2.1 c c1 (y_rd.mpr s)
  exact zct_pos (p := fun i => decide (zA μ 55 0 i = nI c)) (k := i) (by simp [ei]) hi
/-- a round's packings -/
theorem pk_rd {e : Nat} {μ' : zS} (g : RD e μ μ') (c : Nat) : pkm μ c ≤ pkm μ' c ∧ pkm μ' c ≤ pkm μ c + e := by
  obtain ⟨g1, g2, g3, -⟩ := g
  have e1 : y_cp μ' c (zn μ 841) = pkm μ c := zct_congr (fun i hi => by rw [g3 i hi])
  have a1 : y_cp μ' c (zn μ 841) ≤ y_cp μ' c (zn μ' 841) := zct_up g1
  have a2 : ∀ k, y_cp μ' c (zn μ 841 + k) ≤ y_cp μ' c (zn μ 841) + k := fun k => by
    induction k with
    | zero => exact Nat.le_refl _
    | succ k ih =>
      have : y_cp μ' c (zn μ 841 + (k + 1)) ≤ y_cp μ' c (zn μ 841 + k) + 1 := by
        show zct _ (zn μ 841 + k + 1) ≤ _
        rw [zct]
        unfold y_cp
        split <;> omega
      omega
  have a3 := a2 (zn μ' 841 - zn μ 841)
  rw [show zn μ 841 + (zn μ' 841 - zn μ 841) = zn μ' 841 by omega] at a3
  unfold pkm at *
  omega
/-! counting -/
theorem zct_or {p q : Nat → Bool} : ∀ n, zct (fun i => p i || q i) n ≤ zct p n + zct q n
  | 0 => Nat.le_refl _
  | n + 1 => by
    have := zct_or (p := p) (q := q) n
    rw [zct, zct, zct]
    cases p n <;> cases q n <;> simp <;> omega
theorem zct_1 {p : Nat → Bool} (h : ∀ i j, p i = true → p j = true → i = j) : ∀ n, zct p n ≤ 1
  | 0 => Nat.zero_le _
  | n + 1 => by
    rw [zct]
    by_cases e : p n = true
    · rw [if_pos e, zct_0 (fun i hi => by
        cases z : p i
        · rfl
        · have := h i n z e; omega)]
      exact Nat.le_refl _
    · rw [if_neg e]; exact zct_1 h n
theorem zct_inj {f : Nat → Nat} : ∀ (m : Nat) {p : Nat → Bool} (n : Nat), (∀ i, p i = true → f i < m) → (∀ i j, p i = true → p j = true → f i = f j → i = j) → zct p n ≤ m
  | 0, p, n, h1, _ => by
    rw [zct_0 (fun i _ => by
      cases z : p i
      · rfl
      · exact absurd (h1 i z) (Nat.not_lt_zero _))]
    exact Nat.le_refl _
  | m + 1, p, n, h1, h2 => by
    have a1 := zct_inj (f := f) m (p := fun i => p i && !decide (f i = m)) n (fun i hi => by
      rw [Bool.and_eq_true, Bool.not_eq_true', decide_eq_false_iff_not] at hi
      have := h1 i hi.1; omega) (fun i j hi hj e => by
      rw [Bool.and_eq_true] at hi hj
      exact h2 i j hi.1 hj.1 e)
    have a2 := zct_1 (p := fun i => p i && decide (f i = m)) (fun i j hi hj => by
      rw [Bool.and_eq_true, decide_eq_true_eq] at hi hj
      exact h2 i j hi.1 hj.1 (hi.2.trans hj.2.symm)) n
    have a3 := zct_or (p := fun i => p i && !decide (f i = m)) (q := fun i => p i && decide (f i = m)) n
    have e : zct p n = zct (fun i => (p i && !decide (f i = m)) || (p i && decide (f i = m))) n := zct_congr (fun i _ => by cases p i <;> cases decide (f i = m) <;> rfl)
    omega
theorem pack_6 (h : zP R C L K b V σ δ μ τ) : zct (fun c => decide (zA μ 38 0 c = 112)) C ≤ 6 := by
  have nC := pm_nc h
  have e : zct (fun c => decide (zA μ 38 0 c = 112)) C = zct (fun c => decide (c < C) && decide (zA μ 38 0 c = 112)) C := zct_congr (fun i hi => by rw [decide_eq_true hi, Bool.true_and])
  rw [e]
  refine zct_inj (f := fun c => (zA μ 39 0 c).toNatClampNeg) 6 C (fun i hi => ?_) (fun i j hi hj z => ?_)
  · rw [Bool.and_eq_true, decide_eq_true_eq, decide_eq_true_eq] at hi
    obtain ⟨⟨k, hk, ek⟩, -⟩ := h.2.1.2.2.2.1 i (by omega) hi.2
    show (zA μ 39 0 i).toNatClampNeg < 6
    rw [ek, nI_clamp (by omega)]
    exact hk
  · rw [Bool.and_eq_true, decide_eq_true_eq, decide_eq_true_eq] at hi hj
    obtain ⟨⟨k, hk, ek⟩, -⟩ := h.2.1.2.2.2.1 i (by omega) hi.2
    obtain ⟨⟨k', hk', ek'⟩, -⟩ := h.2.1.2.2.2.1 j (by omega) hj.2
    refine h.2.2.2.2.2.2.2.2.2.2.1 i j (by omega) (by omega) hi.2 hj.2 ?_
    have z : (zA μ 39 0 i).toNatClampNeg = (zA μ 39 0 j).toNatClampNeg := z
    rw [ek, ek', nI_clamp (by omega), nI_clamp (by omega)] at z
    rw [ek, ek', z]
def lheld (V : Nat → Int64) (μ : zS) (n : Nat) : Int64 := zsmL (fun c => if zA μ 38 0 c = 104 then V c else 0) n
theorem held_ok (h : zP R C L K b V σ δ μ τ) : k_held σ = lheld V μ C := by
  have nC := pm_nc h
  rw [zr_held h.1]
  unfold y_held lheld
  rw [nC]
  refine zsmL_congr (fun c hc => ?_)
  by_cases s : zA μ 38 0 c = 104
  · rw [if_pos s, if_pos s, (h.2.2.2.2.2.2.2.2.2.2.2.1 c (by omega) s).1]
  · rw [if_neg s, if_neg s]
theorem sumG_ok (h : zP R C L K b V σ δ μ τ) (hK : K ≤ 512) : ∃ s, s ≤ C * 512 ∧ k_sumG σ = nI s := by
  have nC := pm_nc h
  rw [zr_sumG h.1, nC]
  have : ∀ n, n ≤ C → ∃ s, s ≤ n * 512 ∧ zsmI (fun c => zA μ 43 0 c) n = nI s := fun n => by
    induction n with
    | zero => exact fun _ => ⟨0, Nat.zero_le _, rfl⟩
    | succ n ih =>
      intro hn
      obtain ⟨s, hs, es⟩ := ih (by omega)
      obtain ⟨-, ⟨j, hj, ej⟩, -⟩ := h.2.2.2.2.2.2.2.1 n (by omega)
      refine ⟨s + j, by omega, ?_⟩
      rw [zsmI, es]
      show nI s + zA μ 43 0 n = _
      rw [ej, nI_add]
  exact this C (Nat.le_refl _)
theorem share_ok (h : zP R 8 L K b V σ δ μ τ) : ¬ Op.cmpValue (FP.fcmp (k_gs σ) FP.fconst0) CmpOp.l < 0 ∧ ¬ 0 < Op.cmpValue (FP.fcmp (k_gs σ) FP.fconst1) CmpOp.g := by
  obtain ⟨q1, q2, q3, q4, q5, q6⟩ := h.nb
  unfold k_gs
  rw [h.1.1.2.1, q5]
  refine fl_sh (k_cntD σ) ?_
  have : k_cntD σ ≤ zn σ 506 := zct_le _ _
  rw [zr_nc h.1, pm_nc h] at this
  omega
theorem mean_ok (h : zP R 8 L K b V σ δ μ τ) (hK : K ≤ 512) : ¬ Op.cmpValue (FP.dcmp (k_md σ) FP.dconst0) CmpOp.l < 0 := by
  obtain ⟨q1, q2, q3, q4, q5, q6⟩ := h.nb
  obtain ⟨s, hs, es⟩ := sumG_ok h hK
  unfold k_md
  rw [h.1.1.2.1, q5, es]
  exact fl_md (by omega)
theorem none_0 (h : zP R 8 L K b V σ δ μ τ) : k_none σ = 0 := by
  obtain ⟨q1, q2, q3, q4, q5, q6⟩ := h.nb
  unfold k_none
  rw [h.1.1.2.1, q5, if_neg (by decide)]
/-! findings and canopies -/
theorem dn_le {P : Nat → Nat → Bool} (n : Nat) : ∀ m, zct (fun u => zany (fun f => P f u) m) n ≤ zsmN (fun f => zct (P f) n) m
  | 0 => by
    rw [zct_0 (p := fun u => zany (fun f => P f u) 0) (fun _ _ => rfl)]
    exact Nat.le_refl _
  | m + 1 => by
    have ih := dn_le (P := P) n m
    have a := zct_or (p := fun u => zany (fun f => P f u) m) (q := fun u => P m u) n
    have e : zct (fun u => zany (fun f => P f u) (m + 1)) n = zct (fun u => zany (fun f => P f u) m || P m u) n := zct_congr (fun u _ => rfl)
    have e2 : zsmN (fun f => zct (P f) n) (m + 1) = zsmN (fun f => zct (P f) n) m + zct (P m) n := rfl
    have e3 : zct (fun u => P m u) n = zct (P m) n := rfl
    omega
theorem zct_ex {p : Nat → Bool} : ∀ {n : Nat}, 0 < zct p n → ∃ i, i < n ∧ p i = true
  | n, h => by
    obtain ⟨k, hk, h1, -⟩ := zct_hit (p := p) (n := n) (t := 0) h
    exact ⟨k, hk, h1⟩
theorem zsmN_ex {f : Nat → Nat} : ∀ {m : Nat}, 0 < zsmN f m → ∃ i, i < m ∧ 0 < f i
  | 0, h => absurd h (Nat.lt_irrefl _)
  | m + 1, h => by
    rw [zsmN] at h
    by_cases e : 0 < zsmN f m
    · obtain ⟨i, hi, h1⟩ := zsmN_ex e
      exact ⟨i, by omega, h1⟩
    · exact ⟨m, by omega, by omega⟩
def fsum (μ : zS) (m : Nat) : Nat := zsmN (fun f => y_cntG μ f) m
theorem find_ok (h : zP R C L K b V σ δ μ τ) : zct (y_down μ) C ≤ fsum μ (zn μ 843) ∧ (0 < fsum μ (zn μ 843) ↔ 0 < zct (y_down μ) C) := by
  have nC := pm_nc h
  have a : zct (y_down μ) C ≤ fsum μ (zn μ 843) := by
    have := dn_le (P := fun f u => y_reach μ f u && !y_free μ f u) C (zn μ 843)
    unfold fsum y_cntG
    rw [nC]
    exact this
  refine ⟨a, fun z => ?_, fun z => by omega⟩
  obtain ⟨f, hf, h1⟩ := zsmN_ex z
  unfold y_cntG at h1
  rw [nC] at h1
  obtain ⟨u, hu, h2⟩ := zct_ex h1
  exact zct_pos (p := y_down μ) (k := u) (zany_iff.mpr ⟨f, hf, h2⟩) hu
theorem fsum_le (h : zP R C L K b V σ δ μ τ) : ∀ m, fsum μ m ≤ 24 * m
  | 0 => Nat.le_refl _
  | m + 1 => by
    have := fsum_le h m
    have := cntG_le h m
    have e : fsum μ (m + 1) = fsum μ m + y_cntG μ m := rfl
    omega
end ZPS
