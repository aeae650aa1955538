/-! THE CLASS AND THE MODEL SIDE BY SIDE: folds, bits -/
def zorI (f : Nat → Int32) : Nat → Int32
  | 0 => 0
  | n + 1 => zorI f n ||| f n
def zsmN (f : Nat → Nat) : Nat → Nat
  | 0 => 0
  | n + 1 => zsmN f n + f n
theorem zct_congr {p q : Nat → Bool} : ∀ {n : Nat}, (∀ i, i < n → p i = q i) → zct p n = zct q n
  | 0, _ => rfl
  | n + 1, h => by rw [zct, zct, zct_congr (fun i hi => h i (Nat.lt_succ_of_lt hi)), h n (Nat.lt_succ_self n)]
theorem zall_congr {p q : Nat → Bool} : ∀ {n : Nat}, (∀ i, i < n → p i = q i) → zall p n = zall q n
  | 0, _ => rfl
  | n + 1, h => by rw [zall, zall, zall_congr (fun i hi => h i (Nat.lt_succ_of_lt hi)), h n (Nat.lt_succ_self n)]
theorem zany_congr {p q : Nat → Bool} : ∀ {n : Nat}, (∀ i, i < n → p i = q i) → zany p n = zany q n
  | 0, _ => rfl
  | n + 1, h => by rw [zany, zany, zany_congr (fun i hi => h i (Nat.lt_succ_of_lt hi)), h n (Nat.lt_succ_self n)]
theorem zorI_congr {p q : Nat → Int32} : ∀ {n : Nat}, (∀ i, i < n → p i = q i) → zorI p n = zorI q n
  | 0, _ => rfl
  | n + 1, h => by rw [zorI, zorI, zorI_congr (fun i hi => h i (Nat.lt_succ_of_lt hi)), h n (Nat.lt_succ_self n)]
theorem zorL_congr {p q : Nat → Int64} : ∀ {n : Nat}, (∀ i, i < n → p i = q i) → zorL p n = zorL q n
  | 0, _ => rfl
  | n + 1, h => by rw [zorL, zorL, zorL_congr (fun i hi => h i (Nat.lt_succ_of_lt hi)), h n (Nat.lt_succ_self n)]
theorem zsmI_congr {p q : Nat → Int32} : ∀ {n : Nat}, (∀ i, i < n → p i = q i) → zsmI p n = zsmI q n
  | 0, _ => rfl
  | n + 1, h => by rw [zsmI, zsmI, zsmI_congr (fun i hi => h i (Nat.lt_succ_of_lt hi)), h n (Nat.lt_succ_self n)]
theorem zsmL_congr {p q : Nat → Int64} : ∀ {n : Nat}, (∀ i, i < n → p i = q i) → zsmL p n = zsmL q n
  | 0, _ => rfl
  | n + 1, h => by rw [zsmL, zsmL, zsmL_congr (fun i hi => h i (Nat.lt_succ_of_lt hi)), h n (Nat.lt_succ_self n)]
theorem zsmN_congr {p q : Nat → Nat} : ∀ {n : Nat}, (∀ i, i < n → p i = q i) → zsmN p n = zsmN q n
  | 0, _ => rfl
  | n + 1, h => by rw [zsmN, zsmN, zsmN_congr (fun i hi => h i (Nat.lt_succ_of_lt hi)), h n (Nat.lt_succ_self n)]
theorem zfst_congr {p q : Nat → Bool} : ∀ {n : Nat}, (∀ i, i < n → p i = q i) → zfst p n = zfst q n
  | 0, _ => rfl
  | n + 1, h => by rw [zfst, zfst, zfst_congr (fun i hi => h i (Nat.lt_succ_of_lt hi)), h n (Nat.lt_succ_self n)]
theorem zsmN_upd {p q : Nat → Nat} {c : Nat} (hpq : ∀ i, i ≠ c → p i = q i) : ∀ {n : Nat}, c < n → zsmN p n + q c = zsmN q n + p c
  | 0, h => absurd h (Nat.not_lt_zero _)
  | n + 1, h => by
    rw [zsmN, zsmN]
    rcases Nat.lt_or_ge c n with h1 | h1
    · have := zsmN_upd hpq h1
      rw [hpq n (by omega)]
      omega
    · have e : n = c := by omega
      subst e
      rw [zsmN_congr (fun i hi => hpq i (by omega))]
      omega
theorem zany_iff {p : Nat → Bool} : ∀ {n : Nat}, zany p n = true ↔ ∃ i, i < n ∧ p i = true
  | 0 => by simp [zany]
  | n + 1 => by
    rw [zany, Bool.or_eq_true, zany_iff]
    constructor
    · rintro (⟨i, h, hp⟩ | hp)
      · exact ⟨i, Nat.lt_succ_of_lt h, hp⟩
      · exact ⟨n, Nat.lt_succ_self n, hp⟩
    · rintro ⟨i, h, hp⟩
      rcases Nat.lt_succ_iff_lt_or_eq.mp h with h | rfl
      · exact Or.inl ⟨i, h, hp⟩
      · exact Or.inr hp
theorem zct_0 {p : Nat → Bool} : ∀ {n : Nat}, (∀ i, i < n → p i = false) → zct p n = 0
  | 0, _ => rfl
  | n + 1, h => by rw [zct, zct_0 (fun i hi => h i (Nat.lt_succ_of_lt hi)), h n (Nat.lt_succ_self n)]; rfl
theorem zorI_0 {p : Nat → Int32} : ∀ {n : Nat}, (∀ i, i < n → p i = 0) → zorI p n = 0
  | 0, _ => rfl
  | n + 1, h => by rw [zorI, zorI_0 (fun i hi => h i (Nat.lt_succ_of_lt hi)), h n (Nat.lt_succ_self n)]; rfl
theorem zorL_0 {p : Nat → Int64} : ∀ {n : Nat}, (∀ i, i < n → p i = 0) → zorL p n = 0
  | 0, _ => rfl
  | n + 1, h => by rw [zorL, zorL_0 (fun i hi => h i (Nat.lt_succ_of_lt hi)), h n (Nat.lt_succ_self n)]; rfl
theorem b_zorI (f : Nat → Int32) (i : Nat) : ∀ n, bt (zorI f n) i = true ↔ ∃ k, k < n ∧ bt (f k) i = true
  | 0 => by simp [zorI, b_0]
  | n + 1 => by
    rw [zorI, b_or, Bool.or_eq_true, b_zorI f i n]
    constructor
    · rintro (⟨k, h, hp⟩ | hp)
      · exact ⟨k, Nat.lt_succ_of_lt h, hp⟩
      · exact ⟨n, Nat.lt_succ_self n, hp⟩
    · rintro ⟨k, h, hp⟩
      rcases Nat.lt_succ_iff_lt_or_eq.mp h with h | rfl
      · exact Or.inl ⟨k, h, hp⟩
      · exact Or.inr hp
def btL (x : Int64) (i : Nat) : Bool := x.toBitVec.getLsbD i
theorem bL_or (x y : Int64) (i : Nat) : btL (x ||| y) i = (btL x i || btL y i) := by unfold btL; rw [Int64.toBitVec_or, BitVec.getLsbD_or]
theorem bL_and (x y : Int64) (i : Nat) : btL (x &&& y) i = (btL x i && btL y i) := by unfold btL; rw [Int64.toBitVec_and, BitVec.getLsbD_and]
theorem bL_0 (i : Nat) : btL 0 i = false := BitVec.getLsbD_zero
theorem bL_ne0 (x : Int64) : x ≠ 0 ↔ ∃ i, i < 64 ∧ btL x i = true := by
  constructor
  · intro h
    apply Classical.byContradiction
    intro g
    apply h
    refine Int64.toBitVec_inj.mp (BitVec.eq_of_getLsbD_eq (fun i hi => ?_))
    have : ¬ btL x i = true := fun z => g ⟨i, hi, z⟩
    show btL x i = btL 0 i
    rw [bL_0]
    exact Bool.eq_false_iff.mpr this
  · rintro ⟨i, _, h⟩ rfl
    rw [bL_0] at h
    exact absurd h (by decide)
theorem b_zorL (f : Nat → Int64) (i : Nat) : ∀ n, btL (zorL f n) i = true ↔ ∃ k, k < n ∧ btL (f k) i = true
  | 0 => by simp [zorL, bL_0]
  | n + 1 => by
    rw [zorL, bL_or, Bool.or_eq_true, b_zorL f i n]
    constructor
    · rintro (⟨k, h, hp⟩ | hp)
      · exact ⟨k, Nat.lt_succ_of_lt h, hp⟩
      · exact ⟨n, Nat.lt_succ_self n, hp⟩
    · rintro ⟨k, h, hp⟩
      rcases Nat.lt_succ_iff_lt_or_eq.mp h with h | rfl
      · exact Or.inl ⟨k, h, hp⟩
      · exact Or.inr hp
/-- a bit of an int, as the class reads it -/
theorem b_test (x : Int32) {k : Nat} (hk : k < 31) : (x >>> (nI k &&& 31)) &&& 1 = 1 ↔ bt x k = true := by
  have e0 : bt (x >>> (nI k &&& 31)) 0 = bt x k := by rw [b_sshr k (by omega) x (by decide), if_pos (by omega)]; rfl
  have e1 : ∀ i, bt (1 : Int32) i = decide (i = 0) := fun i => by
    unfold bt
    show (1#32).getLsbD i = _
    rw [BitVec.getLsbD_one]
    simp
  constructor
  · intro h
    have h2 := congrArg (fun z => bt z 0) h
    simp only [b_and, e0, e1] at h2
    simpa using h2
  · intro h
    refine b_ext (fun i hi => ?_)
    rw [b_and, e1]
    by_cases hi0 : i = 0
    · subst hi0
      rw [e0, h]
      rfl
    · simp [hi0]
theorem b_one : ∀ h, h < 6 → ∀ k, k < 6 → bt ((1 : Int32) <<< (nI h &&& 31)) k = decide (h = k) := by decide +kernel
theorem bL_one {b : Nat} (hb : b < 64) (i : Nat) : btL ((1 : Int64) <<< ((nI b).toInt64 &&& 63)) i = decide (i = b ∧ i < 64) := by
  have e : ((1 : Int64) <<< ((nI b).toInt64 &&& 63)) = lN (1 * 2 ^ b) := wb_shl 1 hb
  rw [e, Nat.one_mul]
  unfold btL
  rw [wb_tb, BitVec.getLsbD_ofNat, Nat.testBit_two_pow]
  by_cases h1 : i < 64 <;> by_cases h2 : b = i <;> simp [h1, h2, eq_comm]
theorem kyhas {σ μ : zS} {f g N : Nat} {x : Int32} (hb : zbd μ f N) (hN : N < 2 ^ 31) (h : zI σ g 0 = zI μ f 0) : k_has σ g x = y_has μ f x := by
  obtain ⟨h1, h2⟩ := hb
  unfold k_has y_has k_in
  rw [h, h1]
  generalize zn μ f = n at h2 ⊢
  have e1 : (nI n - 1).toInt = (n : Int) - 1 := by
    rcases n with _ | n
    · decide
    · rw [show nI (n + 1) - 1 = nI n by rw [← nI_1]; exact Int32.add_sub_cancel _ _, nI_toInt (by omega)]
      omega
  congr 2
  apply decide_eq_decide.mpr
  rw [Int32.le_iff_toInt_le, Int32.lt_iff_toInt_lt, e1, nI_toInt (by omega)]
  omega
