/-! WHAT THE MODEL ANSWERS -/
theorem vp_up {x : Int32} {n m : Nat} (h : vp_in x n) (hn : n ≤ m) (hm : m < 2 ^ 31) : vp_in x m := by
  obtain ⟨j, hj, rfl⟩ := vp_in_of h (by omega)
  exact vp_in_nI (by omega) hm
theorem nI_d5 {k : Nat} (h : k < 2 ^ 31) : nI k / 5 = nI (k / 5) := pk_div (d := 5) h (by decide) (by decide)
theorem nI_r5 {k : Nat} (h : k < 2 ^ 31) : nI k - nI k / 5 * 5 = nI (k % 5) := pk_rem (d := 5) h (by decide) (by decide)
theorem nI_m5 {q : Nat} : 5 * nI q = nI (5 * q) := by rw [show (5 : Int32) = nI 5 from rfl, pk_mul]
theorem nI_m6 {q : Nat} : 6 * nI q = nI (6 * q) := by rw [show (6 : Int32) = nI 6 from rfl, pk_mul]
def y_has (μ : zS) (f : Nat) (x : Int32) : Bool := k_in x 0 (zI μ f 0 - 1)
def y_may (μ : zS) (g : Nat) (w : Int32) : Bool := decide ((zA μ 31 0 g >>> (w &&& 31)) &&& 1 = 1) && !decide (zA μ 32 0 g < zI μ 844 0)
def y_ready (μ : zS) (c : Nat) : Bool := decide (zA μ 38 0 c = 107) || decide (zA μ 38 0 c = 97) || decide (zA μ 38 0 c = 104)
def y_old (μ : zS) (c : Nat) : Bool := decide (zA μ 36 0 c < zI μ 844 0 - zA μ 37 0 c) || (decide (zA μ 33 0 c = 114) && y_ready μ c && decide (zI μ 845 0 < zI μ 844 0 - zA μ 57 0 (zA μ 41 0 c).toNatClampNeg))
def y_hooks (μ : zS) : Nat := zct (fun c => decide (zA μ 38 0 c = 112)) (zn μ 840)
def y_used (μ : zS) (h : Int32) : Bool := zany (fun c => decide (zA μ 38 0 c = 112) && decide (zA μ 39 0 c = h)) (zn μ 840)
def y_shH (μ : zS) (x pk : Int32) : Bool := if pk = -1 then false else zany (fun i => decide (zA μ 55 0 i = x) && decide (zA μ 56 0 i = zA μ 56 0 pk.toNatClampNeg)) (zn μ 841)
def y_shR (μ : zS) (x pk : Int32) : Bool := if pk = -1 then false else zany (fun i => decide (zA μ 55 0 (i / 5) = x) && decide (zA μ 58 0 i = zA μ 58 0 (5 * pk.toNatClampNeg + i % 5))) (5 * zn μ 841)
def y_pks (μ : zS) (x : Int32) : Nat := zct (fun i => decide (zA μ 55 0 i = x)) (zn μ 841)
def y_reach (μ : zS) (f u : Nat) : Bool := !decide (zA μ 68 0 f = 1) && (decide (zA μ 63 0 f = nI u) ||
  (if zA μ 67 0 f = 45 then (decide (0 < zA μ 66 0 f) && decide (zA μ 35 0 u = zA μ 35 0 (zA μ 63 0 f).toNatClampNeg)) || (decide (1 < zA μ 66 0 f) && y_shH μ (nI u) (zA μ 64 0 f)) || (decide (2 < zA μ 66 0 f) && y_shR μ (nI u) (zA μ 64 0 f)) || (decide (3 < zA μ 66 0 f) && decide (zA μ 34 0 u = zA μ 34 0 (zA μ 63 0 f).toNatClampNeg))
   else (decide (zA μ 67 0 f = 108) && decide (zA μ 35 0 u = zA μ 35 0 (zA μ 63 0 f).toNatClampNeg)) || (decide (zA μ 67 0 f = 104) && y_shH μ (nI u) (zA μ 64 0 f)) || (decide (zA μ 67 0 f = 114) && y_shR μ (nI u) (zA μ 64 0 f)) || (decide (zA μ 67 0 f = 99) && decide (zA μ 34 0 u = zA μ 34 0 (zA μ 63 0 f).toNatClampNeg))))
def y_free (μ : zS) (f u : Nat) : Bool := decide (zA μ 48 0 u = 1) && decide (zA μ 49 0 u = 1) && decide (zA μ 65 0 f < zA μ 46 0 u) && (!decide (zA μ 63 0 f = nI u) || decide (zA μ 65 0 f < zA μ 50 0 u))
def y_down (μ : zS) (u : Nat) : Bool := zany (fun f => y_reach μ f u && !y_free μ f u) (zn μ 843)
def y_fit (μ : zS) (u : Nat) : Bool := !y_down μ u && !y_old μ u
def y_cntG (μ : zS) (f : Nat) : Nat := zct (fun u => y_reach μ f u && !y_free μ f u) (zn μ 840)
/-- the model's indices are in range -/
def yV (μ : zS) : Prop := (zbd μ 839 8 ∧ zbd μ 840 24 ∧ zbd μ 841 86 ∧ zbd μ 842 30 ∧ zbd μ 843 12) ∧ (∀ f, f < zn μ 843 → vp_in (zA μ 63 0 f) 24 ∧ (¬ zA μ 64 0 f = -1 → vp_in (zA μ 64 0 f) 86)) ∧ (∀ u, u < 24 → y_ready μ u = true → vp_in (zA μ 41 0 u) 86) ∧ ∀ q, q < zn μ 842 → ∃ a, a ≤ 6 ∧ zA μ 59 0 q = nI a ∧ ∀ i, i < a → vp_in (zA μ 61 0 (6 * q + i)) 24 ∧ vp_in (zA μ 62 0 (6 * q + i)) 24
theorem bsh {pk : Int32} {a : Bool} {p : Nat → Bool} {k n : Nat} (hz : pk = -1 → a = false) (ha : ¬ pk = -1 → a = zany p k) (h : pk = -1 ∨ k = n) : bI a = bI (if pk = -1 then false else zany p n) := by
  by_cases g : pk = -1
  · rw [if_pos g, hz g]
  · rw [if_neg g, ha g]
    rcases h with h | h
    · exact absurd h g
    · rw [h]
theorem zge5 {μ : zS} {k : Nat} (hc : zbd μ 841 86) (hk : k ≤ 5 * zn μ 841) (h : 5 * zI μ 841 0 ≤ nI k) : k = 5 * zn μ 841 := by
  have := hc.2
  rw [hc.1, nI_m5] at h
  have := znle (by omega) (by omega) h
  omega
theorem zlt5m {μ : zS} {k : Nat} (hc : zbd μ 841 86) (hk : k ≤ 5 * zn μ 841) (h : ¬ 5 * zI μ 841 0 ≤ nI k) : k < 5 * zn μ 841 := by
  have := hc.2
  rw [hc.1, nI_m5] at h
  exact znlt (by omega) (by omega) h