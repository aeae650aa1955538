section ZPM
variable {σ μ τ δ ν : zS} {R C L K b R' C' L' K' b' : Nat} {V V' : Nat → Int64}
/-! WHAT P37 ASKS OF THE MODEL BESIDE: R riggers, C canopies, L loads; at most K acts and b calls of goOn so far; V: the law's deposits -/
def pm_n (R C L : Nat) (μ : zS) : Prop := zn μ 839 = R ∧ zn μ 840 = C ∧ zn μ 842 = L
def pm_k (μ : zS) : Prop := ∀ c, c < zn μ 840 → zA μ 33 0 c = if c % 2 = 0 then 109 else 114
def pm_d (b : Nat) (μ : zS) : Prop := ∃ d, d ≤ 36 * b ∧ zI μ 844 0 = nI d
def pm_c (K : Nat) (μ : zS) : Prop := ∀ c, c < zn μ 840 → (∃ j, j ≤ 12 * K ∧ zA μ 42 0 c = nI j) ∧ (∃ j, j ≤ K ∧ zA μ 43 0 c = nI j) ∧ ∃ j, j ≤ K ∧ zA μ 44 0 c = nI j
def pm_q (μ : zS) : Prop := ∀ c, c < zn μ 840 → y_ready μ c = true → ∃ i, i < zn μ 841 ∧ zA μ 55 0 i = nI c
def pm_b (μ : zS) : Prop := ∀ i, i < zn μ 841 → ¬ zA μ 58 0 (i * 5 + 3) = zA μ 58 0 (i * 5 + 4) ∧ zA μ 57 0 i ≤ zI μ 844 0 ∧ ∀ j, j ≤ i → zA μ 57 0 j ≤ zA μ 57 0 i
def pm_h (μ : zS) : Prop := ∀ c d, c < zn μ 840 → d < zn μ 840 → zA μ 38 0 c = 112 → zA μ 38 0 d = 112 → zA μ 39 0 c = zA μ 39 0 d → c = d
def pm_m (V : Nat → Int64) (μ : zS) : Prop := ∀ c, c < zn μ 840 → zA μ 38 0 c = 104 → V c = (zA μ 53 0 c).toInt64 ∧ (∃ x, x ≤ 60 ∧ zA μ 53 0 c = nI x) ∧ ∃ y, y ≤ 20000 ∧ zA μ 52 0 c = nI y
def pm_x (K : Nat) (μ : zS) : Prop := ∃ x, x ≤ 60 * K ∧ zL μ 847 0 = Int64.ofNat x
def pm_f (μ : zS) : Prop := ∀ f, f < zn μ 843 → zA μ 67 0 f = 45 ∨ zA μ 67 0 f = 108 ∨ zA μ 67 0 f = 104 ∨ zA μ 67 0 f = 114 ∨ zA μ 67 0 f = 99 ∨ zA μ 67 0 f = 115
def pm (R C L K b : Nat) (V : Nat → Int64) (μ : zS) : Prop := pm_n R C L μ ∧ pm_k μ ∧ pm_d b μ ∧ pm_c K μ ∧ pm_q μ ∧ pm_b μ ∧ pm_h μ ∧ pm_m V μ ∧ pm_x K μ ∧ pm_f μ
/-- all that holds of an object of the law -/
def zP (R C L K b : Nat) (V : Nat → Int64) (σ δ μ τ : zS) : Prop := zsim σ μ τ ∧ ymod μ τ ∧ zhist δ μ τ ∧ zn τ 512 ≤ K ∧ pm R C L K b V μ
/-- what a round leaves: e packings more at most -/
def RD (e : Nat) (μ μ' : zS) : Prop := zn μ 841 ≤ zn μ' 841 ∧ zn μ' 841 ≤ zn μ 841 + e ∧ (∀ i, i < zn μ 841 → zA μ' 55 0 i = zA μ 55 0 i) ∧ zL μ 847 0 ≤ zL μ' 847 0
theorem RD_rf : RD 0 μ μ := ⟨Nat.le_refl _, Nat.le_refl _, fun _ _ => rfl, Int64.le_refl _⟩
theorem RD_tr {e f : Nat} {μ1 μ2 : zS} (h : RD e μ μ1) (g : RD f μ1 μ2) : RD (e + f) μ μ2 := by
  obtain ⟨a1, a2, a3, a4⟩ := h
  obtain ⟨c1, c2, c3, c4⟩ := g
  exact ⟨by omega, by omega, fun i hi => (c3 i (by omega)).trans (a3 i hi), Int64.le_trans a4 c4⟩
theorem RD_up {e f : Nat} {μ1 : zS} (h : RD e μ μ1) (g : e ≤ f) : RD f μ μ1 := ⟨h.1, Nat.le_trans h.2.1 (by omega), h.2.2⟩
theorem pm_up (h : pm R C L K b V μ) (hK : K ≤ K') (hb : b ≤ b') : pm R C L K' b' V μ := by
  obtain ⟨p1, p2, ⟨d, d1, d2⟩, p4, p5, p6, p7, p8, ⟨x, x1, x2⟩, p10⟩ := h
  refine ⟨p1, p2, ⟨d, by omega, d2⟩, fun c hc => ?_, p5, p6, p7, p8, ⟨x, by omega, x2⟩, p10⟩
  obtain ⟨⟨j1, a1, e1⟩, ⟨j2, a2, e2⟩, j3, a3, e3⟩ := p4 c hc
  exact ⟨⟨j1, by omega, e1⟩, ⟨j2, by omega, e2⟩, j3, by omega, e3⟩
theorem zP.up (h : zP R C L K b V σ δ μ τ) (hK : K ≤ K') (hb : b ≤ b') : zP R C L K' b' V σ δ μ τ := ⟨h.1, h.2.1, h.2.2.1, Nat.le_trans h.2.2.2.1 hK, pm_up h.2.2.2.2 hK hb⟩
theorem pm_th (h : pm R C L K b V μ) (v : Int32) : pm R C L K b V (zpI μ 838 0 v) := h
/-- an act that is done -/
theorem pa_gen {n : Nat} {w1 w2 w3 w4 : Int32} {Lc : List Nat} {F : zS} {P : Int32 → Prop} (h : zP R C L K b V σ δ μ τ) (hK : K < 512) (za : zact n w1 w2 w3 w4 Lc F P μ τ) (h0 : k_ref σ (nI n) w1 w2 w3 w4 = 0) (eF : F = zpI ν 838 0 0) (hp : pm R' C' L' (K + 1) b' V' ν) : ∃ τ', zP R' C' L' (K + 1) b' V' (k_nS σ n w1 w2 w3 w4) (k_nD σ δ n w1 w2 w3 w4) (zpI ν 838 0 0) τ' := by
  obtain ⟨hs, hm, hh, hk, -⟩ := h
  obtain ⟨-, -, τ', e, s1, m1, h1⟩ := act_post za hs hm hh (by omega)
  rw [eF] at s1 m1 h1
  exact ⟨τ', s1, m1, h1, by omega, hp⟩
/-- an act that is refused -/
theorem pa_no {n : Nat} {w1 w2 w3 w4 : Int32} (h : zP R C L K b V σ δ μ τ) (h0 : ¬ k_ref σ (nI n) w1 w2 w3 w4 = 0) : zP R C L (K + 1) b V (k_nS σ n w1 w2 w3 w4) (k_nD σ δ n w1 w2 w3 w4) μ τ := by
  rw [k_nS_1 h0, k_nD_1 h0]
  exact h.up (by omega) (Nat.le_refl _)
theorem zP.zv (h : zP R C L K b V σ δ μ τ) : zV σ := h.1.V h.2.1
theorem zP.dc (h : zP R C L K b V σ δ μ τ) : zbd δ 200 512 := h.2.2.1.1
theorem zP.df (h : zP R C L K b V σ δ μ τ) (hK : K < 512) : k_full δ = false := by
  have hb := h.2.2.1.1
  have hn := h.2.2.1.2.1
  have hk := h.2.2.2.1
  unfold k_full
  rw [hb.1, show (512 : Int32) = nI 512 from rfl, decide_eq_true ((nI_ltI (by omega) (by omega)).mpr (by omega))]
  rfl
/-! small rows -/
theorem zct_pos {p : Nat → Bool} {k : Nat} (hp : p k = true) : ∀ {n : Nat}, k < n → 0 < zct p n
  | 0, h => absurd h (Nat.not_lt_zero _)
  | n + 1, h => by
    rw [zct]
    rcases Nat.lt_or_ge k n with q | q
    · have := zct_pos hp q; omega
    · rw [show n = k by omega, if_pos hp]; omega
theorem nI_gt0 {n : Nat} (h0 : 0 < n) (h : n < 2 ^ 31) : (0 : Int32) < nI n := by
  rw [show (0 : Int32) = nI 0 from rfl]
  exact (nI_ltI (by decide) h).mpr h0
theorem nI_nl0 {n : Nat} (h : n < 2 ^ 31) : ¬ nI n < 0 := nI_pos h
theorem zans_lt {r : Nat} {v : Int32} (h : ¬ r = 0) : zans r v < 0 := by
  unfold zans
  split <;> first | exact absurd rfl h | decide
theorem pm_nc (h : zP R C L K b V σ δ μ τ) : zn μ 840 = C := h.2.2.2.2.1.2.1
theorem zP.nb (h : zP R C L K b V σ δ μ τ) : R ≤ 8 ∧ C ≤ 24 ∧ L ≤ 30 ∧ zI μ 839 0 = nI R ∧ zI μ 840 0 = nI C ∧ zI μ 842 0 = nI L := by
  obtain ⟨hs, hm, -, -, ⟨n1, n2, n3⟩, -⟩ := h
  obtain ⟨b1, b2, b3, b4, b5⟩ := hm.1
  rw [← n1, ← n2, ← n3]
  exact ⟨b1.2, b2.2, b4.2, b1.1, b2.1, b4.1⟩
theorem y_rd {c : Nat} : y_ready μ c = true ↔ zA μ 38 0 c = 107 ∨ zA μ 38 0 c = 97 ∨ zA μ 38 0 c = 104 := by
  simp only [y_ready, Bool.or_eq_true, decide_eq_true_eq]
  exact ⟨fun h => h.elim (fun h => h.elim Or.inl (fun h => Or.inr (Or.inl h))) (fun h => Or.inr (Or.inr h)), fun h => h.elim (fun h => Or.inl (Or.inl h)) (fun h => h.elim (fun h => Or.inl (Or.inr h)) Or.inr)⟩
/-- states change to open, or between packed and aboard, alone -/
theorem p_rdy (hp : pm R C L K b V μ) (h840 : zn ν 840 = zn μ 840) (h841 : zn ν 841 = zn μ 841) (h55 : ∀ i, zA ν 55 0 i = zA μ 55 0 i) (h39 : ∀ d, zA ν 39 0 d = zA μ 39 0 d) (h52 : ∀ d, zA ν 52 0 d = zA μ 52 0 d) (h53 : ∀ d, zA ν 53 0 d = zA μ 53 0 d) (hV : ∀ d, d < zn μ 840 → zA ν 38 0 d = 104 → V' d = V d)
    (h38 : ∀ d, d < zn μ 840 → zA ν 38 0 d = zA μ 38 0 d ∨ zA ν 38 0 d = 111 ∨ ((zA ν 38 0 d = 107 ∨ zA ν 38 0 d = 97) ∧ y_ready μ d = true)) : pm_q ν ∧ pm_h ν ∧ pm_m V' ν := by
  obtain ⟨-, -, -, -, pq, -, ph, pv, -, -⟩ := hp
  refine ⟨fun d hd hr => ?_, fun d e hd he s1 s2 s3 => ?_, fun d hd s1 => ?_⟩
  · rw [h840] at hd
    have hr' : y_ready μ d = true := by
      rcases h38 d hd with h | h | h
      · rw [y_rd, h] at hr; exact y_rd.mpr hr
      · rw [y_rd, h] at hr; exact absurd hr (by decide)
      · exact h.2
    obtain ⟨i, hi, ei⟩ := pq d hd hr'
    exact ⟨i, by rw [h841]; exact hi, by rw [h55]; exact ei⟩
  · rw [h840] at hd he
    have f : ∀ c, c < zn μ 840 → zA ν 38 0 c = 112 → zA μ 38 0 c = 112 := fun c hc s => by
      rcases h38 c hc with h | h | ⟨h | h, -⟩
      · rw [← h]; exact s
      · rw [h] at s; exact absurd s (by decide)
      · rw [h] at s; exact absurd s (by decide)
      · rw [h] at s; exact absurd s (by decide)
    rw [h39, h39] at s3
    exact ph d e hd he (f d hd s1) (f e he s2) s3
  · rw [h840] at hd
    have g : zA μ 38 0 d = 104 := by
      rcases h38 d hd with h | h | ⟨h | h, -⟩
      · rw [← h]; exact s1
      · rw [h] at s1; exact absurd s1 (by decide)
      · rw [h] at s1; exact absurd s1 (by decide)
      · rw [h] at s1; exact absurd s1 (by decide)
    rw [hV d hd s1, h53, h52]
    exact pv d hd g
theorem zl_nI {n : Nat} (h : n < 2 ^ 31) : (nI n).toInt64 = Int64.ofNat n := by
  refine Int64.toInt_inj.mp ?_
  rw [Int32.toInt_toInt64, nI_toInt h, Int64.toInt_ofNat_of_lt (by omega)]
theorem zl_add (a c : Nat) : Int64.ofNat a + Int64.ofNat c = Int64.ofNat (a + c) := (Int64.ofNat_add a c).symm
theorem zl_le {a c : Nat} (ha : a < 2 ^ 62) (hc : c < 2 ^ 62) (h : a ≤ c) : Int64.ofNat a ≤ Int64.ofNat c := by
  rw [Int64.le_iff_toInt_le, Int64.toInt_ofNat_of_lt (by omega), Int64.toInt_ofNat_of_lt (by omega)]
  omega
theorem k_max0 {a c : Nat} (ha : a < 2 ^ 30) (hc : c < 2 ^ 30) : k_max 0 (nI a - nI c) = nI (a - c) := by
  unfold k_max
  have e : (nI a - nI c).toInt = (a : Int) - c := pk_sub_toInt ha hc
  rcases Nat.lt_or_ge c a with h | h
  · rw [if_pos (by rw [Int32.lt_iff_toInt_lt, e]; show (0 : Int) < _; omega), pk_sub (by omega)]
  · rw [if_neg (by rw [Int32.lt_iff_toInt_lt, e]; show ¬ (0 : Int) < _; omega), show a - c = 0 by omega]
    rfl
end ZPM
