/-! WHAT THE CLASS ANSWERS, as functions of the state -/
def zn (σ : zS) (f : Nat) : Nat := (zI σ f 0).toNatClampNeg
/-- a count that is kept in a field, N at most -/
def zbd (σ : zS) (f N : Nat) : Prop := zI σ f 0 = nI (zn σ f) ∧ zn σ f ≤ N
def zall (p : Nat → Bool) : Nat → Bool
  | 0 => true
  | n + 1 => zall p n && p n
def zany (p : Nat → Bool) : Nat → Bool
  | 0 => false
  | n + 1 => zany p n || p n
def zct (p : Nat → Bool) : Nat → Nat
  | 0 => 0
  | n + 1 => zct p n + (if p n = true then 1 else 0)
def zsmI (f : Nat → Int32) : Nat → Int32
  | 0 => 0
  | n + 1 => zsmI f n + f n
def zsmL (f : Nat → Int64) : Nat → Int64
  | 0 => 0
  | n + 1 => zsmL f n + f n
def zorL (f : Nat → Int64) : Nat → Int64
  | 0 => 0
  | n + 1 => zorL f n ||| f n
theorem zall_no {p : Nat → Bool} : ∀ {n k : Nat}, k < n → p k = false → zall p n = false
  | 0, _, h, _ => absurd h (Nat.not_lt_zero _)
  | n + 1, k, h, hp => by
    rcases Nat.lt_or_ge k n with q | q
    · rw [zall, zall_no q hp]; rfl
    · rw [zall, show n = k by omega, hp, Bool.and_false]
theorem zany_yes {p : Nat → Bool} : ∀ {n k : Nat}, k < n → p k = true → zany p n = true
  | 0, _, h, _ => absurd h (Nat.not_lt_zero _)
  | n + 1, k, h, hp => by
    rcases Nat.lt_or_ge k n with q | q
    · rw [zany, zany_yes q hp]; rfl
    · rw [zany, show n = k by omega, hp, Bool.or_true]
theorem zct_le (p : Nat → Bool) : ∀ n, zct p n ≤ n
  | 0 => Nat.le_refl _
  | n + 1 => by
    have := zct_le p n
    rw [zct]
    split <;> omega
theorem znle {a b : Nat} (ha : a < 2 ^ 31) (hb : b < 2 ^ 31) (h : nI a ≤ nI b) : a ≤ b := (nI_leI ha hb).mp h
theorem znlt {a b : Nat} (ha : a < 2 ^ 31) (hb : b < 2 ^ 31) (h : ¬ nI a ≤ nI b) : b < a := by
  rcases Nat.lt_or_ge b a with q | q
  · exact q
  · exact absurd ((nI_leI ha hb).mpr q) h
def k_in (x lo hi : Int32) : Bool := !decide (x < lo) && !decide (hi < x)
def k_lic (a b : Int32) : Bool := k_in a 0 63 && k_in b 0 9999
def k_has (σ : zS) (f : Nat) (x : Int32) : Bool := !decide (x < 0) && !decide (zI σ f 0 ≤ x)
def k_may (σ : zS) (r : Nat) (w d : Int32) : Bool := !decide (zI σ 601 r < d) && decide ((zI σ 600 r >>> (w &&& 31)) &&& 1 = 1)
def k_hands (σ : zS) (q : Nat) : Int64 := zorL (fun i => 1 <<< ((8 * nI i + zA σ 9 0 (q * 5 + i)).toInt64 &&& 63)) 5
def zfst (p : Nat → Bool) : Nat → Int32
  | 0 => -1
  | n + 1 => if zfst p n = -1 ∧ p n = true then nI n else zfst p n
theorem zfst_no {p : Nat → Bool} : ∀ {n : Nat}, (∀ j, j < n → p j = false) → zfst p n = -1
  | 0, _ => rfl
  | n + 1, h => by
    rw [zfst, if_neg (fun z => by rw [h n (by omega)] at z; exact absurd z.2 (by decide))]
    exact zfst_no (fun j hj => h j (by omega))
theorem zfst_at {p : Nat → Bool} {k : Nat} (hk : k < 2 ^ 31) (hp : p k = true) (h : ∀ j, j < k → p j = false) : ∀ {n : Nat}, k < n → zfst p n = nI k
  | 0, q => absurd q (Nat.not_lt_zero _)
  | n + 1, q => by
    rcases Nat.lt_or_ge k n with r | r
    · rw [zfst, zfst_at hk hp h r, if_neg]
      intro z
      have := congrArg Int32.toInt z.1
      rw [nI_toInt hk] at this
      have e : (-1 : Int32).toInt = -1 := by decide
      omega
    · have e : n = k := by omega
      subst e
      rw [zfst, zfst_no h, if_pos ⟨rfl, hp⟩]
/-- the packing of a canopy at an index, by the row in which packings end -/
def k_own (σ : zS) (o : Int32) (i : Nat) : Bool := decide (zA σ 6 0 i = o)
def k_num (σ : zS) (o j : Int32) : Int32 := zfst (fun i => k_own σ o i && decide (nI (zct (k_own σ o) i) = j)) (zn σ 0)
def k_look (σ : zS) (o j w : Int32) : Int32 := if k_has σ 0 (k_num σ o j) = true then (if w = 104 then zA σ 7 0 (k_num σ o j).toNatClampNeg else if w = 100 then zA σ 8 0 (k_num σ o j).toNatClampNeg else if w - 48 < 0 then 0 else if 5 ≤ w - 48 then 0 else zA σ 9 0 ((k_num σ o j) * 5 + (w - 48)).toNatClampNeg) else 0
def k_goes (σ : zS) (f : Nat) (lev ch : Int32) : Bool := if zI σ 303 f = 45 then !decide (zI σ 302 f < lev) else decide (zI σ 303 f = ch)
def k_left (σ : zS) (c : Nat) : Int32 := if k_has σ 0 (zI σ 110 c) = true then zI σ 510 0 - (zI σ 509 0 - zA σ 8 0 (zI σ 110 c).toNatClampNeg) else 0
def k_old (σ : zS) (c : Nat) : Bool := !decide (zI σ 509 0 - zI σ 104 c ≤ zI σ 103 c) || (decide (zI σ 100 c = 114) && (!decide (zI σ 105 c = 111) && !decide (zI σ 105 c = 112)) && !decide (0 ≤ k_left σ c))
def k_reach (σ : zS) (f c : Nat) : Bool := decide (zI σ 304 f = 0) && (decide (zI σ 300 f = nI c) || (k_goes σ f 1 108 && decide (zI σ 102 c = zI σ 102 (zI σ 300 f).toNatClampNeg)) || (k_goes σ f 4 99 && decide (zI σ 101 c = zI σ 101 (zI σ 300 f).toNatClampNeg)) || (k_has σ 0 (zI σ 301 f) && ((k_goes σ f 2 104 && decide ((zI σ 111 c >>> (zA σ 7 0 (zI σ 301 f).toNatClampNeg &&& 31)) &&& 1 = 1)) || (k_goes σ f 3 114 && !decide (zL σ 112 c &&& k_hands σ (zI σ 301 f).toNatClampNeg = 0)))))
def k_from (σ : zS) (f c : Nat) : Int32 := if zI σ 300 f = nI c then zI σ 306 f else zI σ 305 f
def k_free (σ : zS) (f c : Nat) : Bool := !decide (k_from σ f c ≤ 0) && !decide (zI σ 117 c ≤ k_from σ f c)
def k_down (σ : zS) (c : Nat) : Bool := zany (fun f => k_reach σ f c && !k_free σ f c) (zn σ 508)
def k_cntG (σ : zS) (f : Nat) : Nat := zct (fun c => k_reach σ f c && !k_free σ f c) (zn σ 506)
def k_fit (σ : zS) (c : Nat) : Bool := !k_old σ c && !k_down σ c
def k_shar (σ : zS) (c : Nat) : Nat := zct (fun i => !decide (nI i = nI c) && !decide (zI σ 111 i &&& zI σ 111 c = 0)) (zn σ 506)
def k_first (σ : zS) : Nat → Int32 × Int32
  | 0 => (-1, 0)
  | n + 1 => let (a, b) := k_first σ n; if zI σ 100 n = 114 ∧ zI σ 105 n = 107 ∧ k_old σ n = false ∧ (a < 0 ∨ ¬ b ≤ k_left σ n) then (nI n, k_left σ n) else (a, b)
def k_held (σ : zS) : Int64 := zsmL (fun c => (zI σ 119 c).toInt64) (zn σ 506)
def k_cntD (σ : zS) : Nat := zct (fun c => k_down σ c) (zn σ 506)
def k_sumG (σ : zS) : Int32 := zsmI (fun c => zI σ 115 c) (zn σ 506)
def k_free6 (σ : zS) (h : Int32) : Bool := zall (fun c => !decide (zI σ 106 c = h)) (zn σ 506)
/-- what is so of a loft at any time, as far as the class's own walks need it -/
def zV (σ : zS) : Prop := zbd σ 505 8 ∧ zbd σ 506 24 ∧ zbd σ 507 30 ∧ zbd σ 508 12 ∧ zbd σ 0 86 ∧ (∀ f, f < zn σ 508 → vp_in (zI σ 300 f) 24) ∧ ∀ d, d < zn σ 507 → ∃ a, a ≤ 6 ∧ zI σ 400 d = nI a ∧ ∀ i, i < a → vp_in (zA σ 14 d i) 24 ∧ vp_in (zA σ 15 d i) 24
theorem zhas_in {σ : zS} {f N : Nat} {x : Int32} (hb : zbd σ f N) (hN : N < 2 ^ 31) (h : k_has σ f x = true) : vp_in x N := by
  obtain ⟨h1, h2⟩ := hb
  simp only [k_has, h1, Bool.and_eq_true, Bool.not_eq_true', decide_eq_false_iff_not] at h
  obtain ⟨j, hj, rfl⟩ := nI_of h.1
  exact vp_in_nI (Nat.lt_of_lt_of_le (znlt (by omega) hj h.2) h2) hN
theorem zhas_lt {σ : zS} {f N : Nat} {x : Int32} (hb : zbd σ f N) (hN : N < 2 ^ 31) (h : k_has σ f x = true) : ∃ j, j < zn σ f ∧ x = nI j := by
  obtain ⟨h1, h2⟩ := hb
  simp only [k_has, h1, Bool.and_eq_true, Bool.not_eq_true', decide_eq_false_iff_not] at h
  obtain ⟨j, hj, rfl⟩ := nI_of h.1
  exact ⟨j, znlt (by omega) hj h.2, rfl⟩
theorem zlt_of {σ : zS} {f N k : Nat} (hb : zbd σ f N) (hN : N < 2 ^ 31) (hk : k ≤ zn σ f) (h : ¬ zI σ f 0 ≤ nI k) : k < zn σ f := by
  rw [hb.1] at h
  have := hb.2
  exact znlt (by omega) (by omega) h
theorem zge_of {σ : zS} {f N k : Nat} (hb : zbd σ f N) (hN : N < 2 ^ 31) (hk : k ≤ zn σ f) (h : zI σ f 0 ≤ nI k) : k = zn σ f := by
  rw [hb.1] at h
  have := hb.2
  have := znle (by omega) (by omega) h
  omega
theorem zlt_c {k N : Nat} (hN : N < 2 ^ 31) (hk : k ≤ N) (h : ¬ nI N ≤ nI k) : k < N := znlt (by omega) (by omega) h
theorem zge_c {k N : Nat} (hN : N < 2 ^ 31) (hk : k ≤ N) (h : nI N ≤ nI k) : k = N := by
  have := znle (by omega) (by omega) h
  omega
theorem zmul5 {q i : Nat} : nI q * 5 + nI i = nI (q * 5 + i) := by
  rw [show (5 : Int32) = nI 5 from rfl, pk_mul, nI_add]
