/-! WHAT HOLDS BETWEEN A LOFT σ, THE MODEL μ AND THE STAMPS τ -/
def y_hnd (μ : zS) (i : Nat) : Int64 := zorL (fun q => 1 <<< ((8 * nI q + zA μ 58 0 (i * 5 + q)).toInt64 &&& 63)) 5
def y_hE (μ : zS) (c n : Nat) : Int32 := zorI (fun i => if zA μ 55 0 i = nI c then 1 <<< (zA μ 56 0 i &&& 31) else 0) n
def y_aE (μ : zS) (c n : Nat) : Int64 := zorL (fun i => if zA μ 55 0 i = nI c then y_hnd μ i else 0) n
def y_cp (μ : zS) (c n : Nat) : Nat := zct (fun i => decide (zA μ 55 0 i = nI c)) n
def zs_n (σ μ τ : zS) : Prop := zI σ 505 0 = zI μ 839 0 ∧ zI σ 506 0 = zI μ 840 0 ∧ zI σ 0 0 = zI μ 841 0 ∧ zI σ 507 0 = zI μ 842 0 ∧ zI σ 508 0 = zI μ 843 0 ∧ zI σ 509 0 = zI μ 844 0 ∧ zI σ 510 0 = zI μ 845 0 ∧ zL σ 511 0 = zL μ 847 0 ∧ zI σ 512 0 = zI τ 512 0
def zs_g (σ μ : zS) : Prop := ∀ g, g < zn μ 839 → zI σ 600 g = zA μ 31 0 g ∧ zI σ 601 g = zA μ 32 0 g
def zs_m (σ μ : zS) : Prop := ∀ c, c < zn μ 840 → zI σ 100 c = zA μ 33 0 c ∧ zI σ 101 c = zA μ 34 0 c ∧ zI σ 102 c = zA μ 35 0 c ∧ zI σ 103 c = zA μ 36 0 c ∧ zI σ 104 c = zA μ 37 0 c
def zs_c (σ μ τ : zS) : Prop := ∀ c, c < zn μ 840 → zI σ 105 c = zA μ 38 0 c ∧ zI σ 110 c = zA μ 41 0 c ∧ zI σ 113 c = zA μ 42 0 c ∧ zI σ 114 c = zA μ 44 0 c ∧ zI σ 115 c = zA μ 43 0 c ∧ zI σ 116 c = zI τ 116 c ∧ zI σ 117 c = zI τ 117 c
def zs_e (σ μ : zS) : Prop := ∀ c, c < zn μ 840 → zI σ 109 c = nI (y_cp μ c (zn μ 841)) ∧ zI σ 111 c = y_hE μ c (zn μ 841) ∧ zL σ 112 c = y_aE μ c (zn μ 841)
def zs_w (σ μ : zS) : Prop := ∀ c, c < zn μ 840 → (zA μ 38 0 c = 112 → zI σ 106 c = zA μ 39 0 c ∧ zI σ 107 c = zA μ 40 0 c ∧ ∀ q, q < (zA μ 40 0 c).toNatClampNeg → zA σ 12 c q = zA μ 54 0 (5 * c + q)) ∧ (¬ zA μ 38 0 c = 112 → zI σ 106 c = -1 ∧ zI σ 107 c = 0)
def zs_h (σ μ : zS) : Prop := ∀ c, c < zn μ 840 → (zA μ 38 0 c = 104 → zI σ 118 c = zA μ 52 0 c ∧ zI σ 119 c = zA μ 53 0 c) ∧ (¬ zA μ 38 0 c = 104 → zI σ 118 c = 0 ∧ zI σ 119 c = 0)
def zs_p (σ μ : zS) : Prop := ∀ i, i < zn μ 841 → zA σ 6 0 i = zA μ 55 0 i ∧ zA σ 7 0 i = zA μ 56 0 i ∧ zA σ 8 0 i = zA μ 57 0 i
def zs_r (σ μ : zS) : Prop := ∀ r, r < zn μ 841 * 5 → zA σ 9 0 r = zA μ 58 0 r
def zs_l (σ μ : zS) : Prop := ∀ l, l < zn μ 842 → zI σ 400 l = zA μ 59 0 l ∧ zI σ 401 l = zA μ 60 0 l ∧ ∀ q, q < (zA μ 59 0 l).toNatClampNeg → zA σ 14 l q = zA μ 61 0 (6 * l + q) ∧ zA σ 15 l q = zA μ 62 0 (6 * l + q)
def zs_f (σ μ τ : zS) : Prop := ∀ f, f < zn μ 843 → zI σ 300 f = zA μ 63 0 f ∧ zI σ 301 f = zA μ 64 0 f ∧ zI σ 302 f = zA μ 66 0 f ∧ zI σ 303 f = zA μ 67 0 f ∧ zI σ 304 f = zA μ 68 0 f ∧ zI σ 305 f = zI τ 305 f ∧ zI σ 306 f = zI τ 306 f
def zsim (σ μ τ : zS) : Prop := zs_n σ μ τ ∧ zs_g σ μ ∧ zs_m σ μ ∧ zs_c σ μ τ ∧ zs_e σ μ ∧ zs_w σ μ ∧ zs_h σ μ ∧ zs_p σ μ ∧ zs_r σ μ ∧ zs_l σ μ ∧ zs_f σ μ τ
/-! what holds of the model (and the stamps) alone -/
def ym_n (μ : zS) : Prop := zbd μ 839 8 ∧ zbd μ 840 24 ∧ zbd μ 841 86 ∧ zbd μ 842 30 ∧ zbd μ 843 12
def ym_d (μ : zS) : Prop := (∃ d, d ≤ 9999 ∧ zI μ 844 0 = nI d) ∧ ∃ p, p ≤ 999 ∧ zI μ 845 0 = nI p
def ym_s (μ : zS) : Prop := ∀ c, c < zn μ 840 → zA μ 38 0 c = 111 ∨ zA μ 38 0 c = 112 ∨ zA μ 38 0 c = 107 ∨ zA μ 38 0 c = 97 ∨ zA μ 38 0 c = 104
def ym_w (μ : zS) : Prop := ∀ c, c < zn μ 840 → zA μ 38 0 c = 112 → (∃ h, h < 6 ∧ zA μ 39 0 c = nI h) ∧ ∃ k, k ≤ 4 ∧ zA μ 40 0 c = nI k ∧ ∀ q, q < k → ∃ r, r < 8 ∧ zA μ 54 0 (5 * c + q) = nI r
def ym_k (μ : zS) : Prop := ∀ c, c < zn μ 840 → (zA μ 41 0 c = -1 ∨ ∃ i, i < zn μ 841 ∧ zA μ 41 0 c = nI i) ∧ (y_ready μ c = true → ∃ i, i < zn μ 841 ∧ zA μ 41 0 c = nI i)
def ym_p (μ : zS) : Prop := ∀ i, i < zn μ 841 → (∃ c, c < zn μ 840 ∧ zA μ 55 0 i = nI c) ∧ (∃ h, h < 6 ∧ zA μ 56 0 i = nI h) ∧ (∃ d, d ≤ 9999 ∧ zA μ 57 0 i = nI d) ∧ ∀ q, q < 5 → ∃ r, r < 8 ∧ zA μ 58 0 (i * 5 + q) = nI r
def ym_l (μ : zS) : Prop := ∀ l, l < zn μ 842 → ∃ a, a ≤ 6 ∧ zA μ 59 0 l = nI a ∧ (zA μ 60 0 l = 0 ∨ zA μ 60 0 l = 1) ∧ ∀ q, q < a → ∃ m r, m < zn μ 840 ∧ r < zn μ 840 ∧ zA μ 61 0 (6 * l + q) = nI m ∧ zA μ 62 0 (6 * l + q) = nI r ∧ zA μ 33 0 m = 109 ∧ zA μ 33 0 r = 114 ∧ (zA μ 60 0 l = 0 → zA μ 38 0 m = 97 ∧ zA μ 38 0 r = 97)
def ym_x (μ : zS) : Prop := ∀ l l', l < zn μ 842 → l' < zn μ 842 → zA μ 60 0 l = 0 → zA μ 60 0 l' = 0 → ∀ q q', q < (zA μ 59 0 l).toNatClampNeg → q' < (zA μ 59 0 l').toNatClampNeg → (zA μ 61 0 (6 * l + q) = zA μ 61 0 (6 * l' + q') ∨ zA μ 62 0 (6 * l + q) = zA μ 62 0 (6 * l' + q')) → l = l' ∧ q = q'
def ym_f (μ : zS) : Prop := ∀ f, f < zn μ 843 → (∃ c, c < zn μ 840 ∧ zA μ 63 0 f = nI c) ∧ (zA μ 64 0 f = -1 ∨ ∃ i, i < zn μ 841 ∧ zA μ 64 0 f = nI i) ∧ (zA μ 68 0 f = 0 ∨ zA μ 68 0 f = 1) ∧ ∃ v, v ≤ 4 ∧ zA μ 66 0 f = nI v
def ym_z (μ : zS) : Prop := (∀ c, zn μ 840 ≤ c → c < 24 → zA μ 38 0 c = 0 ∧ zA μ 42 0 c = 0 ∧ zA μ 43 0 c = 0 ∧ zA μ 44 0 c = 0 ∧ zA μ 48 0 c = 0 ∧ zA μ 49 0 c = 0 ∧ zA μ 50 0 c = 0 ∧ zA μ 51 0 c = 0) ∧ (∀ l, zn μ 842 ≤ l → l < 30 → zA μ 59 0 l = 0 ∧ zA μ 60 0 l = 0) ∧ ∀ f, zn μ 843 ≤ f → f < 12 → zA μ 68 0 f = 0
def tC (N a lg gb one two d1 d2 rp r1 r2 : Int) : Prop := 0 ≤ lg ∧ lg ≤ N ∧ 0 ≤ gb ∧ gb ≤ N ∧ (one = 0 ∨ one = 1) ∧ (two = 0 ∨ two = 1) ∧ d1 < a ∧ d2 < a ∧ rp < a ∧ (0 < gb → r1 < a) ∧ (0 < lg → r2 < a) ∧ (two = 1 ↔ 0 < lg) ∧ (one = 1 ∧ two = 1 ↔ 0 < gb)
def tF (N a mb rb fa : Int) : Prop := 1 ≤ mb ∧ mb ≤ N ∧ 0 ≤ rb ∧ rb ≤ N ∧ 0 ≤ fa ∧ fa < a
def tX (own : Prop) (mb rb lg gb fa d1 d2 rp r1 r2 : Int) : Prop := (0 < lg → (fa < d2 ↔ mb < lg)) ∧ (0 < gb → (fa < d1 ↔ mb < gb)) ∧ (own → (0 < rb ↔ fa < rp) ∧ (0 < rb → mb < rb) ∧ (0 < lg → (fa < r2 ↔ 0 < rb ∧ rb < lg)) ∧ (0 < gb → (fa < r1 ↔ 0 < rb ∧ rb < gb)))
def ym_t0 (μ τ : zS) : Prop := zbd τ 512 512 ∧ zbd μ 846 1024 ∧ 1 ≤ zn μ 846 + 1 ∧ zn μ 846 ≤ 2 * zn τ 512
def ym_tC (μ τ : zS) : Prop := ∀ c, c < zn μ 840 → tC (zn τ 512) (zn μ 846) (zI τ 116 c).toInt (zI τ 117 c).toInt (zA μ 48 0 c).toInt (zA μ 49 0 c).toInt (zA μ 46 0 c).toInt (zA μ 47 0 c).toInt (zA μ 45 0 c).toInt (zA μ 50 0 c).toInt (zA μ 51 0 c).toInt
def ym_tF (μ τ : zS) : Prop := ∀ f, f < zn μ 843 → tF (zn τ 512) (zn μ 846) (zI τ 305 f).toInt (zI τ 306 f).toInt (zA μ 65 0 f).toInt
def ym_tX (μ τ : zS) : Prop := ∀ f c, f < zn μ 843 → c < zn μ 840 → tX (zA μ 63 0 f = nI c) (zI τ 305 f).toInt (zI τ 306 f).toInt (zI τ 116 c).toInt (zI τ 117 c).toInt (zA μ 65 0 f).toInt (zA μ 46 0 c).toInt (zA μ 47 0 c).toInt (zA μ 45 0 c).toInt (zA μ 50 0 c).toInt (zA μ 51 0 c).toInt
def y_wk (μ : zS) (c : Nat) : Nat := if zA μ 38 0 c = 112 then 1 + (zA μ 40 0 c).toNatClampNeg else 0
def ym_b (μ τ : zS) : Prop := 6 * zn μ 841 + zsmN (y_wk μ) (zn μ 840) ≤ zn τ 512
def ymod (μ τ : zS) : Prop := ym_n μ ∧ ym_d μ ∧ ym_s μ ∧ ym_w μ ∧ ym_k μ ∧ ym_p μ ∧ ym_l μ ∧ ym_x μ ∧ ym_f μ ∧ ym_z μ ∧ ym_t0 μ τ ∧ ym_tC μ τ ∧ ym_tF μ τ ∧ ym_tX μ τ ∧ ym_b μ τ
/-! the small consequences -/
theorem zn_eq {σ μ : zS} {f g : Nat} (h : zI σ f 0 = zI μ g 0) : zn σ f = zn μ g := by unfold zn; rw [h]
theorem zbd_eq {σ μ : zS} {f g N : Nat} (h : zI σ f 0 = zI μ g 0) (hb : zbd μ g N) : zbd σ f N := by
  unfold zbd at *
  rw [zn_eq h, h]
  exact hb
theorem zsim.V {σ μ τ : zS} (h : zsim σ μ τ) (hm : ymod μ τ) : zV σ := by
  obtain ⟨⟨n1, n2, n3, n4, n5, -⟩, -, -, -, -, -, -, -, -, hl, hf⟩ := h
  obtain ⟨⟨b1, b2, b3, b4, b5⟩, -, -, -, -, -, ml, -, mf, -⟩ := hm
  refine ⟨zbd_eq n1 b1, zbd_eq n2 b2, zbd_eq n4 b4, zbd_eq n5 b5, zbd_eq n3 b3, fun f hf' => ?_, fun d hd => ?_⟩
  · rw [zn_eq n5] at hf'
    obtain ⟨c, hc, e⟩ := (mf f hf').1
    rw [(hf f hf').1, e]
    exact vp_in_nI (by have := b2.2; omega) (by decide)
  · rw [zn_eq n4] at hd
    obtain ⟨a, ha, e, -, hq⟩ := ml d hd
    obtain ⟨h1, h2, h3⟩ := hl d hd
    refine ⟨a, ha, h1.trans e, fun i hi => ?_⟩
    obtain ⟨m, r, hm, hr, e1, e2, -⟩ := hq i hi
    have h4 := h3 i (by rw [e, nI_clamp (by omega)]; exact hi)
    rw [h4.1, h4.2, e1, e2]
    have := b2.2
    exact ⟨vp_in_nI (by omega) (by decide), vp_in_nI (by omega) (by decide)⟩
theorem ymod.V {μ τ : zS} (hm : ymod μ τ) : yV μ := by
  obtain ⟨⟨b1, b2, b3, b4, b5⟩, -, -, -, mk, -, ml, -, mf, mz, -⟩ := hm
  refine ⟨⟨b1, b2, b3, b4, b5⟩, fun f hf => ?_, fun u hu hr => ?_, fun d hd => ?_⟩
  · obtain ⟨⟨c, hc, e⟩, h2, -⟩ := mf f hf
    refine ⟨by rw [e]; exact vp_in_nI (by have := b2.2; omega) (by decide), fun hne => ?_⟩
    obtain h2 | ⟨i, hi, e2⟩ := h2
    · exact absurd h2 hne
    · rw [e2]; exact vp_in_nI (by have := b3.2; omega) (by decide)
  · rcases Nat.lt_or_ge u (zn μ 840) with h | h
    · obtain ⟨i, hi, e⟩ := (mk u h).2 hr
      rw [e]; exact vp_in_nI (by have := b3.2; omega) (by decide)
    · have := (mz.1 u h hu).1
      unfold y_ready at hr
      rw [this] at hr
      exact absurd hr (by decide)
  · obtain ⟨a, ha, e, -, hq⟩ := ml d hd
    refine ⟨a, ha, e, fun i hi => ?_⟩
    obtain ⟨m, r, hm, hr, e1, e2, -⟩ := hq i hi
    rw [e1, e2]
    have := b2.2
    exact ⟨vp_in_nI (by omega) (by decide), vp_in_nI (by omega) (by decide)⟩
