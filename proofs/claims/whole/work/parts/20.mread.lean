/-! WHAT THE MODEL ANSWERS -/
theorem vp_up {x : Int32} {n m : Nat} (h : vp_in x n) (hn : n ≤ m) (hm : m < 2 ^ 31) : vp_in x m := by
  obtain ⟨j, hj, rfl⟩ := vp_in_of h (by omega)
  exact vp_in_nI (by omega) hm
theorem nI_d5 {k : Nat} (h : k < 2 ^ 31) : nI k / 5 = nI (k / 5) := pk_div (d := 5) h (by decide) (by decide)
theorem nI_r5 {k : Nat} (h : k < 2 ^ 31) : nI k - nI k / 5 * 5 = nI (k % 5) := pk_rem (d := 5) h (by decide) (by decide)
theorem nI_m5 {q : Nat} : 5 * nI q = nI (5 * q) := by rw [show (5 : Int32) = nI 5 from rfl, pk_mul]
theorem nI_m6 {q : Nat} : 6 * nI q = nI (6 * q) := by rw [show (6 : Int32) = nI 6 from rfl, pk_mul]
def y_has (μ : zS) (f : Nat) (x : Int32) : Bool := k_in x 0 (zI μ f 0 - 1)
def y_may (μ : zS) (g : Nat) (w : Int32) : Bool := decide ((zA μ 31 0 g >>> (w &&& 31)) &&& 1 = 1) && !decide (zA μ 32 0 g < zI μ 844 0)
def y_ready (μ : zS) (c : Nat) : Bool := decide (zA μ 38 0 c = 107) || decide (zA μ 38 0 c = 97) || decide (zA μ 38 0 c = 104)
def y_old (μ : zS) (c : Nat) : Bool := decide (zA μ 36 0 c < zI μ 844 0 - zA μ 37 0 c) || (decide (zA μ 33 0 c = 114) && y_ready μ c && decide (zI μ 845 0 < zI μ 844 0 - zA μ 57 0 (zA μ 41 0 c).toNatClampNeg))
def y_hooks (μ : zS) : Nat := zct (fun c => decide (zA μ 38 0 c = 112)) (zn μ 840)
def y_used (μ : zS) (h : Int32) : Bool := zany (fun c => decide (zA μ 38 0 c = 112) && decide (zA μ 39 0 c = h)) (zn μ 840)
def y_shH (μ : zS) (x pk : Int32) : Bool := if pk = -1 then false else zany (fun i => decide (zA μ 55 0 i = x) && decide (zA μ 56 0 i = zA μ 56 0 pk.toNatClampNeg)) (zn μ 841)
def y_shR (μ : zS) (x pk : Int32) : Bool := if pk = -1 then false else zany (fun i => decide (zA μ 55 0 (i / 5) = x) && decide (zA μ 58 0 i = zA μ 58 0 (5 * pk.toNatClampNeg + i % 5))) (5 * zn μ 841)
def y_pks (μ : zS) (x : Int32) : Nat := zct (fun i => decide (zA μ 55 0 i = x)) (zn μ 841)
def y_reach (μ : zS) (f u : Nat) : Bool := !decide (zA μ 68 0 f = 1) && (decide (zA μ 63 0 f = nI u) ||
  (if zA μ 67 0 f = 45 then (decide (0 < zA μ 66 0 f) && decide (zA μ 35 0 u = zA μ 35 0 (zA μ 63 0 f).toNatClampNeg)) || (decide (1 < zA μ 66 0 f) && y_shH μ (nI u) (zA μ 64 0 f)) || (decide (2 < zA μ 66 0 f) && y_shR μ (nI u) (zA μ 64 0 f)) || (decide (3 < zA μ 66 0 f) && decide (zA μ 34 0 u = zA μ 34 0 (zA μ 63 0 f).toNatClampNeg))
   else (decide (zA μ 67 0 f = 108) && decide (zA μ 35 0 u = zA μ 35 0 (zA μ 63 0 f).toNatClampNeg)) || (decide (zA μ 67 0 f = 104) && y_shH μ (nI u) (zA μ 64 0 f)) || (decide (zA μ 67 0 f = 114) && y_shR μ (nI u) (zA μ 64 0 f)) || (decide (zA μ 67 0 f = 99) && decide (zA μ 34 0 u = zA μ 34 0 (zA μ 63 0 f).toNatClampNeg))))
def y_free (μ : zS) (f u : Nat) : Bool := decide (zA μ 48 0 u = 1) && decide (zA μ 49 0 u = 1) && decide (zA μ 65 0 f < zA μ 46 0 u) && (!decide (zA μ 63 0 f = nI u) || decide (zA μ 65 0 f < zA μ 50 0 u))
def y_down (μ : zS) (u : Nat) : Bool := zany (fun f => y_reach μ f u && !y_free μ f u) (zn μ 843)
def y_fit (μ : zS) (u : Nat) : Bool := !y_down μ u && !y_old μ u
def y_cntG (μ : zS) (f : Nat) : Nat := zct (fun u => y_reach μ f u && !y_free μ f u) (zn μ 840)
/-- the model's indices are in range -/
def yV (μ : zS) : Prop := (zbd μ 839 8 ∧ zbd μ 840 24 ∧ zbd μ 841 86 ∧ zbd μ 842 30 ∧ zbd μ 843 12) ∧ (∀ f, f < zn μ 843 → vp_in (zA μ 63 0 f) 24 ∧ (¬ zA μ 64 0 f = -1 → vp_in (zA μ 64 0 f) 86)) ∧ (∀ u, u < 24 → y_ready μ u = true → vp_in (zA μ 41 0 u) 86) ∧ ∀ q, q < zn μ 842 → ∃ a, a ≤ 6 ∧ zA μ 59 0 q = nI a ∧ ∀ i, i < a → vp_in (zA μ 61 0 (6 * q + i)) 24 ∧ vp_in (zA μ 62 0 (6 * q + i)) 24
theorem zmX10_in : zmS yX10_in RX10 cX10_in 3 (some .boolean) 3 := ⟨m_1260, m_9, m_1261, rfl, by decide, by decide, by decide +kernel⟩
set_option maxRecDepth 100000 in
set_option maxHeartbeats 4000000 in
theorem ctX10_in (l : Launch) (D : va_G) (cy : Nat → ClassId) (x : Int32) (lo : Int32) (hi : Int32) : Met l yX10_in (zw yX10_in cX10_in 3 (some .boolean)) (zrm 0) (va_Pc [.int x, .int lo, .int hi] (zB D cy (fun _ => True))) (zqR (.int (bI (k_in x lo hi)))) 0 0 (fun _ => False) := by
  refine zmet (by decide) rfl (Nat.le_of_ble_eq_true rfl) rfl (fun p e s m below meth c ls X hml hr hlocks hv hl => ?_)
  obtain ⟨hK, hW⟩ := hv
  obtain ⟨hx, hb, -, -⟩ := id X
  have hl : lv_has ls 3 [(0, .int x), (1, .int lo), (2, .int hi)] := hl
  refine lv_iload_n hx hb dX10_in_0 rfl (lv_at hl 0 rfl) ?_
  refine lv_iload_n hx hb dX10_in_1 rfl (lv_at hl 1 rfl) ?_
  refine lv_icmp_lt (tgt := 14) hx hb dX10_in_2 (by decide) (fun b1 => ?_) (fun b1 => ?_)
  · refine lv_iconst (v := 0) hx hb dX10_in_14 (by decide) ?_
    exact ze_z hx hb hr hlocks (by simp [bI_t, bI_f, k_in, b1, Int32.not_le.mpr b1]) dX10_in_15
  · refine lv_iload_n hx hb dX10_in_5 rfl (lv_at hl 0 rfl) ?_
    refine lv_iload_n hx hb dX10_in_6 rfl (lv_at hl 2 rfl) ?_
    refine lv_icmp_gt (tgt := 14) hx hb dX10_in_7 (by decide) (fun b2 => ?_) (fun b2 => ?_)
    · refine lv_iconst (v := 0) hx hb dX10_in_14 (by decide) ?_
      exact ze_z hx hb hr hlocks (by simp [bI_t, bI_f, k_in, b1, Int32.not_lt.mp b1, b2, Int32.not_le.mpr b2]) dX10_in_15
    · refine lv_iconst (v := 1) hx hb dX10_in_10 (by decide) ?_
      refine lv_goto (tgt := 15) hx hb dX10_in_11 (by decide) ?_
      exact ze_z hx hb hr hlocks (by simp [bI_t, bI_f, k_in, b1, Int32.not_lt.mp b1, b2, Int32.not_lt.mp b2]) dX10_in_15
theorem zmX10_isRigger : zmV yX10_isRigger RX10 cX10_isRigger 2 (some .boolean) 1 := ⟨m_1276, s_38, m_9, m_1277, rfl, by decide, by decide, by decide +kernel⟩
set_option maxRecDepth 100000 in
set_option maxHeartbeats 4000000 in
theorem ctX10_isRigger (l : Launch) (D : va_G) (cy : Nat → ClassId) (ad : Nat → Nat → Nat) (μ : zS) (x : Int32) : Met l yX10_isRigger (zw yX10_isRigger cX10_isRigger 2 (some .boolean)) (zrm 1) (va_Pc [.ref (ad 30 0), .int x] (zB D cy (zW D cy ad zsM μ))) (zqR (.int (bI (y_has μ 839 x)))) 0 0 (fun _ => False) := by
  refine zmet (by decide) rfl (Nat.le_of_ble_eq_true rfl) rfl (fun p e s m below meth c ls X hml hr hlocks hv hl => ?_)
  obtain ⟨hK, hW⟩ := hv
  obtain ⟨hx, hb, -, -⟩ := id X
  have hl : lv_has ls 2 [(0, .ref (ad 30 0)), (1, .int x)] := hl
  refine lv_iload_n hx hb dX10_isRigger_0 rfl (lv_at hl 1 rfl) ?_
  refine lv_iconst (v := 0) hx hb dX10_isRigger_1 (by decide) ?_
  refine lv_aload_n hx hb dX10_isRigger_2 rfl (lv_at hl 0 rfl) ?_
  refine zg8_39 X hK hW m_1145 dX10_isRigger_3 ?_
  refine lv_iconst (v := 1) hx hb dX10_isRigger_6 (by decide) ?_
  refine lv_isub hx hb dX10_isRigger_7 ?_
  refine zcallRS (As := [.int x, .int 0, .int ((zI μ 839 0) - 1)]) (rest := []) X hml hK trivial (ctX10_in l D cy x 0 ((zI μ 839 0) - 1)) zmX10_in (by decide) m_1259 ⟨Nat.le_of_ble_eq_true rfl, Nat.le_of_ble_eq_true rfl⟩ ⟨Nat.zero_le _, Nat.zero_le _⟩ rfl hl.1 rfl (Nat.le_of_ble_eq_true rfl) dX10_isRigger_8 ?_
  exact ze_z hx hb hr hlocks rfl dX10_isRigger_11
theorem zmX10_isCanopy : zmV yX10_isCanopy RX10 cX10_isCanopy 2 (some .boolean) 1 := ⟨m_1296, s_39, m_9, m_1297, rfl, by decide, by decide, by decide +kernel⟩
set_option maxRecDepth 100000 in
set_option maxHeartbeats 4000000 in
theorem ctX10_isCanopy (l : Launch) (D : va_G) (cy : Nat → ClassId) (ad : Nat → Nat → Nat) (μ : zS) (x : Int32) : Met l yX10_isCanopy (zw yX10_isCanopy cX10_isCanopy 2 (some .boolean)) (zrm 1) (va_Pc [.ref (ad 30 0), .int x] (zB D cy (zW D cy ad zsM μ))) (zqR (.int (bI (y_has μ 840 x)))) 0 0 (fun _ => False) := by
  refine zmet (by decide) rfl (Nat.le_of_ble_eq_true rfl) rfl (fun p e s m below meth c ls X hml hr hlocks hv hl => ?_)
  obtain ⟨hK, hW⟩ := hv
  obtain ⟨hx, hb, -, -⟩ := id X
  have hl : lv_has ls 2 [(0, .ref (ad 30 0)), (1, .int x)] := hl
  refine lv_iload_n hx hb dX10_isCanopy_0 rfl (lv_at hl 1 rfl) ?_
  refine lv_iconst (v := 0) hx hb dX10_isCanopy_1 (by decide) ?_
  refine lv_aload_n hx hb dX10_isCanopy_2 rfl (lv_at hl 0 rfl) ?_
  refine zg8_40 X hK hW m_1146 dX10_isCanopy_3 ?_
  refine lv_iconst (v := 1) hx hb dX10_isCanopy_6 (by decide) ?_
  refine lv_isub hx hb dX10_isCanopy_7 ?_
  refine zcallRS (As := [.int x, .int 0, .int ((zI μ 840 0) - 1)]) (rest := []) X hml hK trivial (ctX10_in l D cy x 0 ((zI μ 840 0) - 1)) zmX10_in (by decide) m_1259 ⟨Nat.le_of_ble_eq_true rfl, Nat.le_of_ble_eq_true rfl⟩ ⟨Nat.zero_le _, Nat.zero_le _⟩ rfl hl.1 rfl (Nat.le_of_ble_eq_true rfl) dX10_isCanopy_8 ?_
  exact ze_z hx hb hr hlocks rfl dX10_isCanopy_11
theorem zmX10_isLoad : zmV yX10_isLoad RX10 cX10_isLoad 2 (some .boolean) 1 := ⟨m_1392, s_52, m_9, m_1393, rfl, by decide, by decide, by decide +kernel⟩
set_option maxRecDepth 100000 in
set_option maxHeartbeats 4000000 in
theorem ctX10_isLoad (l : Launch) (D : va_G) (cy : Nat → ClassId) (ad : Nat → Nat → Nat) (μ : zS) (x : Int32) : Met l yX10_isLoad (zw yX10_isLoad cX10_isLoad 2 (some .boolean)) (zrm 1) (va_Pc [.ref (ad 30 0), .int x] (zB D cy (zW D cy ad zsM μ))) (zqR (.int (bI (y_has μ 842 x)))) 0 0 (fun _ => False) := by
  refine zmet (by decide) rfl (Nat.le_of_ble_eq_true rfl) rfl (fun p e s m below meth c ls X hml hr hlocks hv hl => ?_)
  obtain ⟨hK, hW⟩ := hv
  obtain ⟨hx, hb, -, -⟩ := id X
  have hl : lv_has ls 2 [(0, .ref (ad 30 0)), (1, .int x)] := hl
  refine lv_iload_n hx hb dX10_isLoad_0 rfl (lv_at hl 1 rfl) ?_
  refine lv_iconst (v := 0) hx hb dX10_isLoad_1 (by decide) ?_
  refine lv_aload_n hx hb dX10_isLoad_2 rfl (lv_at hl 0 rfl) ?_
  refine zg8_42 X hK hW m_1148 dX10_isLoad_3 ?_
  refine lv_iconst (v := 1) hx hb dX10_isLoad_6 (by decide) ?_
  refine lv_isub hx hb dX10_isLoad_7 ?_
  refine zcallRS (As := [.int x, .int 0, .int ((zI μ 842 0) - 1)]) (rest := []) X hml hK trivial (ctX10_in l D cy x 0 ((zI μ 842 0) - 1)) zmX10_in (by decide) m_1259 ⟨Nat.le_of_ble_eq_true rfl, Nat.le_of_ble_eq_true rfl⟩ ⟨Nat.zero_le _, Nat.zero_le _⟩ rfl hl.1 rfl (Nat.le_of_ble_eq_true rfl) dX10_isLoad_8 ?_
  exact ze_z hx hb hr hlocks rfl dX10_isLoad_11
theorem zmX10_isFinding : zmV yX10_isFinding RX10 cX10_isFinding 2 (some .boolean) 1 := ⟨m_1336, s_45, m_9, m_1337, rfl, by decide, by decide, by decide +kernel⟩
set_option maxRecDepth 100000 in
set_option maxHeartbeats 4000000 in
theorem ctX10_isFinding (l : Launch) (D : va_G) (cy : Nat → ClassId) (ad : Nat → Nat → Nat) (μ : zS) (x : Int32) : Met l yX10_isFinding (zw yX10_isFinding cX10_isFinding 2 (some .boolean)) (zrm 1) (va_Pc [.ref (ad 30 0), .int x] (zB D cy (zW D cy ad zsM μ))) (zqR (.int (bI (y_has μ 843 x)))) 0 0 (fun _ => False) := by
  refine zmet (by decide) rfl (Nat.le_of_ble_eq_true rfl) rfl (fun p e s m below meth c ls X hml hr hlocks hv hl => ?_)
  obtain ⟨hK, hW⟩ := hv
  obtain ⟨hx, hb, -, -⟩ := id X
  have hl : lv_has ls 2 [(0, .ref (ad 30 0)), (1, .int x)] := hl
  refine lv_iload_n hx hb dX10_isFinding_0 rfl (lv_at hl 1 rfl) ?_
  refine lv_iconst (v := 0) hx hb dX10_isFinding_1 (by decide) ?_
  refine lv_aload_n hx hb dX10_isFinding_2 rfl (lv_at hl 0 rfl) ?_
  refine zg8_43 X hK hW m_1149 dX10_isFinding_3 ?_
  refine lv_iconst (v := 1) hx hb dX10_isFinding_6 (by decide) ?_
  refine lv_isub hx hb dX10_isFinding_7 ?_
  refine zcallRS (As := [.int x, .int 0, .int ((zI μ 843 0) - 1)]) (rest := []) X hml hK trivial (ctX10_in l D cy x 0 ((zI μ 843 0) - 1)) zmX10_in (by decide) m_1259 ⟨Nat.le_of_ble_eq_true rfl, Nat.le_of_ble_eq_true rfl⟩ ⟨Nat.zero_le _, Nat.zero_le _⟩ rfl hl.1 rfl (Nat.le_of_ble_eq_true rfl) dX10_isFinding_8 ?_
  exact ze_z hx hb hr hlocks rfl dX10_isFinding_11
theorem zmX10_may : zmV yX10_may RX10 cX10_may 3 (some .boolean) 2 := ⟨m_1312, s_42, m_9, m_1313, rfl, by decide, by decide, by decide +kernel⟩
set_option maxRecDepth 100000 in
set_option maxHeartbeats 4000000 in
theorem ctX10_may (l : Launch) (D : va_G) (cy : Nat → ClassId) (ad : Nat → Nat → Nat) (μ : zS) (g : Nat) (hi_g : g < 8) (w : Int32) : Met l yX10_may (zw yX10_may cX10_may 3 (some .boolean)) (zrm 0) (va_Pc [.ref (ad 30 0), .int (nI g), .int w] (zB D cy (zW D cy ad zsM μ))) (zqR (.int (bI (y_may μ g w)))) 0 0 (fun _ => False) := by
  refine zmet (by decide) rfl (Nat.le_of_ble_eq_true rfl) rfl (fun p e s m below meth c ls X hml hr hlocks hv hl => ?_)
  obtain ⟨hK, hW⟩ := hv
  obtain ⟨hx, hb, -, -⟩ := id X
  have hl : lv_has ls 3 [(0, .ref (ad 30 0)), (1, .int (nI g)), (2, .int w)] := hl
  refine lv_aload_n hx hb dX10_may_0 rfl (lv_at hl 0 rfl) ?_
  refine zg8_0 X hK hW m_1106 dX10_may_1 ?_
  refine lv_iload_n hx hb dX10_may_4 rfl (lv_at hl 1 rfl) ?_
  refine zan31 X hK hW (by omega) dX10_may_5 ?_
  refine lv_iload_n hx hb dX10_may_6 rfl (lv_at hl 2 rfl) ?_
  refine lv_ishr hx hb dX10_may_7 ?_
  refine lv_iconst (v := 1) hx hb dX10_may_8 (by decide) ?_
  refine lv_iand hx hb dX10_may_9 ?_
  refine lv_iconst (v := 1) hx hb dX10_may_10 (by decide) ?_
  refine lv_icmp_ne (tgt := 31) hx hb dX10_may_11 (by decide) (fun b1 => ?_) (fun b1 => ?_)
  · refine lv_iconst (v := 0) hx hb dX10_may_31 (by decide) ?_
    exact ze_z hx hb hr hlocks (by simp [bI_t, bI_f, y_may, b1, Ne.symm b1]) dX10_may_32
  · refine lv_aload_n hx hb dX10_may_14 rfl (lv_at hl 0 rfl) ?_
    refine zg8_44 X hK hW m_1150 dX10_may_15 ?_
    refine lv_aload_n hx hb dX10_may_18 rfl (lv_at hl 0 rfl) ?_
    refine zg8_1 X hK hW m_1107 dX10_may_19 ?_
    refine lv_iload_n hx hb dX10_may_22 rfl (lv_at hl 1 rfl) ?_
    refine zan32 X hK hW (by omega) dX10_may_23 ?_
    refine lv_icmp_gt (tgt := 31) hx hb dX10_may_24 (by decide) (fun b2 => ?_) (fun b2 => ?_)
    · refine lv_iconst (v := 0) hx hb dX10_may_31 (by decide) ?_
      exact ze_z hx hb hr hlocks (by simp [bI_t, bI_f, y_may, b1, b2, Int32.not_le.mpr b2]) dX10_may_32
    · refine lv_iconst (v := 1) hx hb dX10_may_27 (by decide) ?_
      refine lv_goto (tgt := 32) hx hb dX10_may_28 (by decide) ?_
      exact ze_z hx hb hr hlocks (by simp [bI_t, bI_f, y_may, b1, b2, Int32.not_lt.mp b2]) dX10_may_32
theorem zmX10_isReady : zmV yX10_isReady RX10 cX10_isReady 2 (some .boolean) 1 := ⟨m_1408, s_56, m_9, m_1409, rfl, by decide, by decide, by decide +kernel⟩
set_option maxRecDepth 100000 in
set_option maxHeartbeats 4000000 in
theorem ctX10_isReady (l : Launch) (D : va_G) (cy : Nat → ClassId) (ad : Nat → Nat → Nat) (μ : zS) (u : Nat) (hi_u : u < 24) : Met l yX10_isReady (zw yX10_isReady cX10_isReady 2 (some .boolean)) (zrm 0) (va_Pc [.ref (ad 30 0), .int (nI u)] (zB D cy (zW D cy ad zsM μ))) (zqR (.int (bI (y_ready μ u)))) 0 0 (fun _ => False) := by
  refine zmet (by decide) rfl (Nat.le_of_ble_eq_true rfl) rfl (fun p e s m below meth c ls X hml hr hlocks hv hl => ?_)
  obtain ⟨hK, hW⟩ := hv
  obtain ⟨hx, hb, -, -⟩ := id X
  have hl : lv_has ls 2 [(0, .ref (ad 30 0)), (1, .int (nI u))] := hl
  refine lv_aload_n hx hb dX10_isReady_0 rfl (lv_at hl 0 rfl) ?_
  refine zg8_7 X hK hW m_1113 dX10_isReady_1 ?_
  refine lv_iload_n hx hb dX10_isReady_4 rfl (lv_at hl 1 rfl) ?_
  refine zan38 X hK hW (by omega) dX10_isReady_5 ?_
  refine lv_bipush (v := 107) hx hb dX10_isReady_6 (by decide) ?_
  refine lv_icmp_eq (tgt := 33) hx hb dX10_isReady_8 (by decide) (fun b1 => ?_) (fun b1 => ?_)
  · refine lv_iconst (v := 1) hx hb dX10_isReady_33 (by decide) ?_
    refine lv_goto (tgt := 38) hx hb dX10_isReady_34 (by decide) ?_
    exact ze_z hx hb hr hlocks (by simp [bI_t, bI_f, y_ready, b1]) dX10_isReady_38
  · refine lv_aload_n hx hb dX10_isReady_11 rfl (lv_at hl 0 rfl) ?_
    refine zg8_7 X hK hW m_1113 dX10_isReady_12 ?_
    refine lv_iload_n hx hb dX10_isReady_15 rfl (lv_at hl 1 rfl) ?_
    refine zan38 X hK hW (by omega) dX10_isReady_16 ?_
    refine lv_bipush (v := 97) hx hb dX10_isReady_17 (by decide) ?_
    refine lv_icmp_eq (tgt := 33) hx hb dX10_isReady_19 (by decide) (fun b2 => ?_) (fun b2 => ?_)
    · refine lv_iconst (v := 1) hx hb dX10_isReady_33 (by decide) ?_
      refine lv_goto (tgt := 38) hx hb dX10_isReady_34 (by decide) ?_
      exact ze_z hx hb hr hlocks (by simp [bI_t, bI_f, y_ready, b1, Ne.symm b1, b2]) dX10_isReady_38
    · refine lv_aload_n hx hb dX10_isReady_22 rfl (lv_at hl 0 rfl) ?_
      refine zg8_7 X hK hW m_1113 dX10_isReady_23 ?_
      refine lv_iload_n hx hb dX10_isReady_26 rfl (lv_at hl 1 rfl) ?_
      refine zan38 X hK hW (by omega) dX10_isReady_27 ?_
      refine lv_bipush (v := 104) hx hb dX10_isReady_28 (by decide) ?_
      refine lv_icmp_ne (tgt := 37) hx hb dX10_isReady_30 (by decide) (fun b3 => ?_) (fun b3 => ?_)
      · refine lv_iconst (v := 0) hx hb dX10_isReady_37 (by decide) ?_
        exact ze_z hx hb hr hlocks (by simp [bI_t, bI_f, y_ready, b1, Ne.symm b1, b2, Ne.symm b2, b3, Ne.symm b3]) dX10_isReady_38
      · refine lv_iconst (v := 1) hx hb dX10_isReady_33 (by decide) ?_
        refine lv_goto (tgt := 38) hx hb dX10_isReady_34 (by decide) ?_
        exact ze_z hx hb hr hlocks (by simp [bI_t, bI_f, y_ready, b1, Ne.symm b1, b2, Ne.symm b2, b3]) dX10_isReady_38
theorem zmX10_isOld : zmV yX10_isOld RX10 cX10_isOld 2 (some .boolean) 1 := ⟨m_1404, s_55, m_9, m_1405, rfl, by decide, by decide, by decide +kernel⟩
set_option maxRecDepth 100000 in
set_option maxHeartbeats 4000000 in
theorem ctX10_isOld (l : Launch) (D : va_G) (cy : Nat → ClassId) (ad : Nat → Nat → Nat) (μ : zS) (u : Nat) (hi_u : u < 24) (hL : y_ready μ u = true → vp_in (zA μ 41 0 u) 86) : Met l yX10_isOld (zw yX10_isOld cX10_isOld 2 (some .boolean)) (zrm 1) (va_Pc [.ref (ad 30 0), .int (nI u)] (zB D cy (zW D cy ad zsM μ))) (zqR (.int (bI (y_old μ u)))) 0 0 (fun _ => False) := by
  refine zmet (by decide) rfl (Nat.le_of_ble_eq_true rfl) rfl (fun p e s m below meth c ls X hml hr hlocks hv hl => ?_)
  obtain ⟨hK, hW⟩ := hv
  obtain ⟨hx, hb, -, -⟩ := id X
  have hl : lv_has ls 2 [(0, .ref (ad 30 0)), (1, .int (nI u))] := hl
  refine lv_aload_n hx hb dX10_isOld_0 rfl (lv_at hl 0 rfl) ?_
  refine zg8_44 X hK hW m_1150 dX10_isOld_1 ?_
  refine lv_aload_n hx hb dX10_isOld_4 rfl (lv_at hl 0 rfl) ?_
  refine zg8_6 X hK hW m_1112 dX10_isOld_5 ?_
  refine lv_iload_n hx hb dX10_isOld_8 rfl (lv_at hl 1 rfl) ?_
  refine zan37 X hK hW (by omega) dX10_isOld_9 ?_
  refine lv_isub hx hb dX10_isOld_10 ?_
  refine lv_aload_n hx hb dX10_isOld_11 rfl (lv_at hl 0 rfl) ?_
  refine zg8_5 X hK hW m_1111 dX10_isOld_12 ?_
  refine lv_iload_n hx hb dX10_isOld_15 rfl (lv_at hl 1 rfl) ?_
  refine zan36 X hK hW (by omega) dX10_isOld_16 ?_
  refine lv_icmp_gt (tgt := 62) hx hb dX10_isOld_17 (by decide) (fun b1 => ?_) (fun b1 => ?_)
  · refine lv_iconst (v := 1) hx hb dX10_isOld_62 (by decide) ?_
    refine lv_goto (tgt := 67) hx hb dX10_isOld_63 (by decide) ?_
    exact ze_z hx hb hr hlocks (by simp [bI_t, bI_f, y_old, b1, Int32.not_le.mpr b1]) dX10_isOld_67
  · refine lv_aload_n hx hb dX10_isOld_20 rfl (lv_at hl 0 rfl) ?_
    refine zg8_2 X hK hW m_1108 dX10_isOld_21 ?_
    refine lv_iload_n hx hb dX10_isOld_24 rfl (lv_at hl 1 rfl) ?_
    refine zan33 X hK hW (by omega) dX10_isOld_25 ?_
    refine lv_bipush (v := 114) hx hb dX10_isOld_26 (by decide) ?_
    refine lv_icmp_ne (tgt := 66) hx hb dX10_isOld_28 (by decide) (fun b2 => ?_) (fun b2 => ?_)
    · refine lv_iconst (v := 0) hx hb dX10_isOld_66 (by decide) ?_
      exact ze_z hx hb hr hlocks (by simp [bI_t, bI_f, y_old, b1, Int32.not_lt.mp b1, b2, Ne.symm b2]) dX10_isOld_67
    · refine lv_aload_n hx hb dX10_isOld_31 rfl (lv_at hl 0 rfl) ?_
      refine lv_iload_n hx hb dX10_isOld_32 rfl (lv_at hl 1 rfl) ?_
      refine zcallRV (As := [.int (nI u)]) (rest := []) X hml hK hW (ctX10_isReady l D cy ad μ u (by omega)) zmX10_isReady (by decide) m_1406 (zrecv hK (hW 30 0 rfl (by decide)) rfl) ⟨Nat.le_of_ble_eq_true rfl, Nat.le_of_ble_eq_true rfl⟩ ⟨Nat.zero_le _, Nat.zero_le _⟩ rfl hl.1 rfl (Nat.le_of_ble_eq_true rfl) dX10_isOld_33 ?_
      refine zb_eq (tgt := 66) hx hb dX10_isOld_36 (by decide) (fun b3 => ?_) (fun b3 => ?_)
      · refine lv_iconst (v := 0) hx hb dX10_isOld_66 (by decide) ?_
        exact ze_z hx hb hr hlocks (by simp [bI_t, bI_f, y_old, b1, Int32.not_lt.mp b1, b2, b3]) dX10_isOld_67
      · refine lv_aload_n hx hb dX10_isOld_39 rfl (lv_at hl 0 rfl) ?_
        refine zg8_44 X hK hW m_1150 dX10_isOld_40 ?_
        refine lv_aload_n hx hb dX10_isOld_43 rfl (lv_at hl 0 rfl) ?_
        refine zg8_26 X hK hW m_1132 dX10_isOld_44 ?_
        refine lv_aload_n hx hb dX10_isOld_47 rfl (lv_at hl 0 rfl) ?_
        refine zg8_10 X hK hW m_1116 dX10_isOld_48 ?_
        refine lv_iload_n hx hb dX10_isOld_51 rfl (lv_at hl 1 rfl) ?_
        have hpk := vp_up (hL b3) (show (86 : Nat) ≤ 120 by decide) (by decide)
        refine zan41 X hK hW (by omega) dX10_isOld_52 ?_
        refine za57 X hK hW hpk dX10_isOld_53 ?_
        refine lv_isub hx hb dX10_isOld_54 ?_
        refine lv_aload_n hx hb dX10_isOld_55 rfl (lv_at hl 0 rfl) ?_
        refine zg8_45 X hK hW m_1151 dX10_isOld_56 ?_
        refine lv_icmp_le (tgt := 66) hx hb dX10_isOld_59 (by decide) (fun b4 => ?_) (fun b4 => ?_)
        · refine lv_iconst (v := 0) hx hb dX10_isOld_66 (by decide) ?_
          exact ze_z hx hb hr hlocks (by simp [bI_t, bI_f, y_old, b1, Int32.not_lt.mp b1, b2, b3, b4, Int32.not_lt.mpr b4]) dX10_isOld_67
        · refine lv_iconst (v := 1) hx hb dX10_isOld_62 (by decide) ?_
          refine lv_goto (tgt := 67) hx hb dX10_isOld_63 (by decide) ?_
          exact ze_z hx hb hr hlocks (by simp [bI_t, bI_f, y_old, b1, Int32.not_lt.mp b1, b2, b3, b4, Int32.not_le.mp b4]) dX10_isOld_67
theorem zmX10_hooksUsed : zmV yX10_hooksUsed RX10 cX10_hooksUsed 3 (some .int) 0 := ⟨m_1304, s_41, m_9, m_1305, rfl, by decide, by decide, by decide +kernel⟩
set_option maxRecDepth 100000 in
set_option maxHeartbeats 4000000 in
theorem ctX10_hooksUsed (l : Launch) (D : va_G) (cy : Nat → ClassId) (ad : Nat → Nat → Nat) (μ : zS) (hc : zbd μ 840 24) : Met l yX10_hooksUsed (zw yX10_hooksUsed cX10_hooksUsed 3 (some .int)) (zrm 0) (va_Pc [.ref (ad 30 0)] (zB D cy (zW D cy ad zsM μ))) (zqR (.int (nI (y_hooks μ)))) 0 0 (fun _ => False) := by
  refine zmet (by decide) rfl (Nat.le_of_ble_eq_true rfl) rfl (fun p e s m below meth c ls X hml hr hlocks hv hl => ?_)
  obtain ⟨hK, hW⟩ := hv
  obtain ⟨hx, hb, -, -⟩ := id X
  have hl : lv_has ls 3 [(0, .ref (ad 30 0))] := hl
  refine lv_iconst (v := 0) hx hb dX10_hooksUsed_0 (by decide) ?_
  refine lv_istore_n (lv' := [(1, .int 0), (0, .ref (ad 30 0))]) hx hb dX10_hooksUsed_1 rfl hl (by decide) rfl (fun ls hl => ?_)
  refine lv_iconst (v := 0) hx hb dX10_hooksUsed_2 (by decide) ?_
  refine lv_istore_n (lv' := [(2, .int 0), (1, .int 0), (0, .ref (ad 30 0))]) hx hb dX10_hooksUsed_3 rfl hl (by decide) rfl (fun ls hl => ?_)
  have loop4 : ∀ (n : Nat) (k : Nat) (a : Int32) (ls : Array Slot), lv_has ls 3 [(0, .ref (ad 30 0)), (1, .int a), (2, .int (nI k))] → zn μ 840 + 1 - k < n → (k ≤ zn μ 840) → (a = nI (zct (fun c => decide (zA μ 38 0 c = 112)) k)) → W p l e (zrm 0) s m ([.ref (ad 30 0)] : List Value).toArray below meth c s.heap [] 0 0 (MQ below (zqR (.int (nI (y_hooks μ)))) ([.ref (ad 30 0)] : List Value).toArray s 0 0 (fun _ => False)) (F0 m 4 ls []) := by
    intro n
    induction n with
    | zero => intro k a ls hl hm hk ha; exact absurd hm (Nat.not_lt_zero _)
    | succ n ih4 =>
      intro k a ls hl hm hk ha
      refine lv_iload_n hx hb dX10_hooksUsed_4 rfl (lv_at hl 2 rfl) ?_
      refine lv_aload_n hx hb dX10_hooksUsed_5 rfl (lv_at hl 0 rfl) ?_
      refine zg8_40 X hK hW m_1146 dX10_hooksUsed_6 ?_
      refine lv_icmp_ge (tgt := 37) hx hb dX10_hooksUsed_9 (by decide) (fun b1 => ?_) (fun b1 => ?_)
      · refine lv_iload_n hx hb dX10_hooksUsed_37 rfl (lv_at hl 1 rfl) ?_
        exact ze_i hx hb hr hlocks (by rw [ha, zge_of hc (by decide) hk b1]; rfl) dX10_hooksUsed_38
      · have hlt : k < zn μ 840 := zlt_of hc (by decide) hk b1
        have hltN := Nat.lt_of_lt_of_le hlt hc.2
        refine lv_iload_n hx hb dX10_hooksUsed_12 rfl (lv_at hl 1 rfl) ?_
        refine lv_aload_n hx hb dX10_hooksUsed_13 rfl (lv_at hl 0 rfl) ?_
        refine zg8_7 X hK hW m_1113 dX10_hooksUsed_14 ?_
        refine lv_iload_n hx hb dX10_hooksUsed_17 rfl (lv_at hl 2 rfl) ?_
        refine zan38 X hK hW (by omega) dX10_hooksUsed_18 ?_
        refine lv_bipush (v := 112) hx hb dX10_hooksUsed_19 (by decide) ?_
        refine lv_icmp_ne (tgt := 28) hx hb dX10_hooksUsed_21 (by decide) (fun b2 => ?_) (fun b2 => ?_)
        · refine lv_iconst (v := 0) hx hb dX10_hooksUsed_28 (by decide) ?_
          refine lv_iadd hx hb dX10_hooksUsed_29 ?_
          refine lv_istore_n (lv' := [(1, .int (a + 0)), (0, .ref (ad 30 0)), (2, .int (nI k))]) hx hb dX10_hooksUsed_30 rfl hl (by decide) rfl (fun ls hl => ?_)
          refine lv_iinc (v := nI (k + 1)) (lv' := [(2, .int (nI (k + 1))), (1, .int (a + 0)), (0, .ref (ad 30 0))]) hx hb dX10_hooksUsed_31 hl (k := 2) rfl (nI_1 k) (by decide) rfl (fun ls hl => ?_)
          refine lv_goto (tgt := 4) hx hb dX10_hooksUsed_34 (by decide) ?_
          exact ih4 (k + 1) (a + 0) _ (lv_sub hl [2, 1, 0] rfl) (by omega) hlt (by rw [ha, zct, if_neg (by simp [b1, Int32.not_le.mp b1, b2, Ne.symm b2]), Nat.add_zero]; exact Int32.add_zero _)
        · refine lv_iconst (v := 1) hx hb dX10_hooksUsed_24 (by decide) ?_
          refine lv_goto (tgt := 29) hx hb dX10_hooksUsed_25 (by decide) ?_
          refine lv_iadd hx hb dX10_hooksUsed_29 ?_
          refine lv_istore_n (lv' := [(1, .int (a + 1)), (0, .ref (ad 30 0)), (2, .int (nI k))]) hx hb dX10_hooksUsed_30 rfl hl (by decide) rfl (fun ls hl => ?_)
          refine lv_iinc (v := nI (k + 1)) (lv' := [(2, .int (nI (k + 1))), (1, .int (a + 1)), (0, .ref (ad 30 0))]) hx hb dX10_hooksUsed_31 hl (k := 2) rfl (nI_1 k) (by decide) rfl (fun ls hl => ?_)
          refine lv_goto (tgt := 4) hx hb dX10_hooksUsed_34 (by decide) ?_
          exact ih4 (k + 1) (a + 1) _ (lv_sub hl [2, 1, 0] rfl) (by omega) hlt (by rw [ha, zct, if_pos (by simp [b1, Int32.not_le.mp b1, b2]), ← nI_1])
  exact loop4 _ 0 0 _ (lv_sub hl [2, 1, 0] rfl) (Nat.lt_succ_self _) (Nat.zero_le _) rfl
theorem zmX10_isUsed : zmV yX10_isUsed RX10 cX10_isUsed 4 (some .boolean) 1 := ⟨m_1300, s_40, m_9, m_1301, rfl, by decide, by decide, by decide +kernel⟩
set_option maxRecDepth 100000 in
set_option maxHeartbeats 4000000 in
theorem ctX10_isUsed (l : Launch) (D : va_G) (cy : Nat → ClassId) (ad : Nat → Nat → Nat) (μ : zS) (h : Int32) (hc : zbd μ 840 24) : Met l yX10_isUsed (zw yX10_isUsed cX10_isUsed 4 (some .boolean)) (zrm 0) (va_Pc [.ref (ad 30 0), .int h] (zB D cy (zW D cy ad zsM μ))) (zqR (.int (bI (y_used μ h)))) 0 0 (fun _ => False) := by
  refine zmet (by decide) rfl (Nat.le_of_ble_eq_true rfl) rfl (fun p e s m below meth c ls X hml hr hlocks hv hl => ?_)
  obtain ⟨hK, hW⟩ := hv
  obtain ⟨hx, hb, -, -⟩ := id X
  have hl : lv_has ls 4 [(0, .ref (ad 30 0)), (1, .int h)] := hl
  refine lv_iconst (v := 0) hx hb dX10_isUsed_0 (by decide) ?_
  refine lv_istore_n (lv' := [(2, .int 0), (0, .ref (ad 30 0)), (1, .int h)]) hx hb dX10_isUsed_1 rfl hl (by decide) rfl (fun ls hl => ?_)
  refine lv_iconst (v := 0) hx hb dX10_isUsed_2 (by decide) ?_
  refine lv_istore_n (lv' := [(3, .int 0), (2, .int 0), (0, .ref (ad 30 0)), (1, .int h)]) hx hb dX10_isUsed_3 rfl hl (by decide) rfl (fun ls hl => ?_)
  have loop4 : ∀ (n : Nat) (k : Nat) (a : Bool) (ls : Array Slot), lv_has ls 4 [(0, .ref (ad 30 0)), (1, .int h), (2, .int (bI a)), (3, .int (nI k))] → zn μ 840 + 1 - k < n → (k ≤ zn μ 840) → (a = zany (fun c => decide (zA μ 38 0 c = 112) && decide (zA μ 39 0 c = h)) k) → W p l e (zrm 0) s m ([.ref (ad 30 0), .int h] : List Value).toArray below meth c s.heap [] 0 0 (MQ below (zqR (.int (bI (y_used μ h)))) ([.ref (ad 30 0), .int h] : List Value).toArray s 0 0 (fun _ => False)) (F0 m 4 ls []) := by
    intro n
    induction n with
    | zero => intro k a ls hl hm hk ha; exact absurd hm (Nat.not_lt_zero _)
    | succ n ih4 =>
      intro k a ls hl hm hk ha
      refine lv_iload_n hx hb dX10_isUsed_4 rfl (lv_at hl 3 rfl) ?_
      refine lv_aload_n hx hb dX10_isUsed_5 rfl (lv_at hl 0 rfl) ?_
      refine zg8_40 X hK hW m_1146 dX10_isUsed_6 ?_
      refine lv_icmp_ge (tgt := 49) hx hb dX10_isUsed_9 (by decide) (fun b1 => ?_) (fun b1 => ?_)
      · refine lv_iload_n hx hb dX10_isUsed_49 rfl (lv_at hl 2 rfl) ?_
        exact ze_z hx hb hr hlocks (by rw [ha, zge_of hc (by decide) hk b1]; rfl) dX10_isUsed_50
      · have hlt : k < zn μ 840 := zlt_of hc (by decide) hk b1
        have hltN := Nat.lt_of_lt_of_le hlt hc.2
        refine lv_iload_n hx hb dX10_isUsed_12 rfl (lv_at hl 2 rfl) ?_
        refine zb_ne (tgt := 37) hx hb dX10_isUsed_13 (by decide) (fun b2 => ?_) (fun b2 => ?_)
        · refine lv_iconst (v := 1) hx hb dX10_isUsed_37 (by decide) ?_
          refine lv_goto (tgt := 42) hx hb dX10_isUsed_38 (by decide) ?_
          refine lv_istore_n (lv' := [(2, .int 1), (0, .ref (ad 30 0)), (1, .int h), (3, .int (nI k))]) hx hb dX10_isUsed_42 rfl hl (by decide) rfl (fun ls hl => ?_)
          refine lv_iinc (v := nI (k + 1)) (lv' := [(3, .int (nI (k + 1))), (2, .int 1), (0, .ref (ad 30 0)), (1, .int h)]) hx hb dX10_isUsed_43 hl (k := 3) rfl (nI_1 k) (by decide) rfl (fun ls hl => ?_)
          refine lv_goto (tgt := 4) hx hb dX10_isUsed_46 (by decide) ?_
          exact ih4 (k + 1) true _ (lv_sub hl [2, 3, 1, 0] rfl) (by omega) hlt (by rw [zany, ← ha]; simp [b1, Int32.not_le.mp b1, b2])
        · refine lv_aload_n hx hb dX10_isUsed_16 rfl (lv_at hl 0 rfl) ?_
          refine zg8_7 X hK hW m_1113 dX10_isUsed_17 ?_
          refine lv_iload_n hx hb dX10_isUsed_20 rfl (lv_at hl 3 rfl) ?_
          refine zan38 X hK hW (by omega) dX10_isUsed_21 ?_
          refine lv_bipush (v := 112) hx hb dX10_isUsed_22 (by decide) ?_
          refine lv_icmp_ne (tgt := 41) hx hb dX10_isUsed_24 (by decide) (fun b3 => ?_) (fun b3 => ?_)
          · refine lv_iconst (v := 0) hx hb dX10_isUsed_41 (by decide) ?_
            refine lv_istore_n (lv' := [(2, .int 0), (0, .ref (ad 30 0)), (1, .int h), (3, .int (nI k))]) hx hb dX10_isUsed_42 rfl hl (by decide) rfl (fun ls hl => ?_)
            refine lv_iinc (v := nI (k + 1)) (lv' := [(3, .int (nI (k + 1))), (2, .int 0), (0, .ref (ad 30 0)), (1, .int h)]) hx hb dX10_isUsed_43 hl (k := 3) rfl (nI_1 k) (by decide) rfl (fun ls hl => ?_)
            refine lv_goto (tgt := 4) hx hb dX10_isUsed_46 (by decide) ?_
            exact ih4 (k + 1) false _ (lv_sub hl [2, 3, 1, 0] rfl) (by omega) hlt (by rw [zany, ← ha]; simp [b1, Int32.not_le.mp b1, b2, b3, Ne.symm b3])
          · refine lv_aload_n hx hb dX10_isUsed_27 rfl (lv_at hl 0 rfl) ?_
            refine zg8_8 X hK hW m_1114 dX10_isUsed_28 ?_
            refine lv_iload_n hx hb dX10_isUsed_31 rfl (lv_at hl 3 rfl) ?_
            refine zan39 X hK hW (by omega) dX10_isUsed_32 ?_
            refine lv_iload_n hx hb dX10_isUsed_33 rfl (lv_at hl 1 rfl) ?_
            refine lv_icmp_ne (tgt := 41) hx hb dX10_isUsed_34 (by decide) (fun b4 => ?_) (fun b4 => ?_)
            · refine lv_iconst (v := 0) hx hb dX10_isUsed_41 (by decide) ?_
              refine lv_istore_n (lv' := [(2, .int 0), (0, .ref (ad 30 0)), (1, .int h), (3, .int (nI k))]) hx hb dX10_isUsed_42 rfl hl (by decide) rfl (fun ls hl => ?_)
              refine lv_iinc (v := nI (k + 1)) (lv' := [(3, .int (nI (k + 1))), (2, .int 0), (0, .ref (ad 30 0)), (1, .int h)]) hx hb dX10_isUsed_43 hl (k := 3) rfl (nI_1 k) (by decide) rfl (fun ls hl => ?_)
              refine lv_goto (tgt := 4) hx hb dX10_isUsed_46 (by decide) ?_
              exact ih4 (k + 1) false _ (lv_sub hl [2, 3, 1, 0] rfl) (by omega) hlt (by rw [zany, ← ha]; simp [b1, Int32.not_le.mp b1, b2, b3, b4, Ne.symm b4])
            · refine lv_iconst (v := 1) hx hb dX10_isUsed_37 (by decide) ?_
              refine lv_goto (tgt := 42) hx hb dX10_isUsed_38 (by decide) ?_
              refine lv_istore_n (lv' := [(2, .int 1), (0, .ref (ad 30 0)), (1, .int h), (3, .int (nI k))]) hx hb dX10_isUsed_42 rfl hl (by decide) rfl (fun ls hl => ?_)
              refine lv_iinc (v := nI (k + 1)) (lv' := [(3, .int (nI (k + 1))), (2, .int 1), (0, .ref (ad 30 0)), (1, .int h)]) hx hb dX10_isUsed_43 hl (k := 3) rfl (nI_1 k) (by decide) rfl (fun ls hl => ?_)
              refine lv_goto (tgt := 4) hx hb dX10_isUsed_46 (by decide) ?_
              exact ih4 (k + 1) true _ (lv_sub hl [2, 3, 1, 0] rfl) (by omega) hlt (by rw [zany, ← ha]; simp [b1, Int32.not_le.mp b1, b2, b3, b4])
  exact loop4 _ 0 false _ (lv_sub hl [2, 3, 1, 0] rfl) (Nat.lt_succ_self _) (Nat.zero_le _) rfl
theorem zmX10_packsOf : zmV yX10_packsOf RX10 cX10_packsOf 4 (some .int) 1 := ⟨m_1449, s_58, m_9, m_1450, rfl, by decide, by decide, by decide +kernel⟩
set_option maxRecDepth 100000 in
set_option maxHeartbeats 4000000 in
theorem ctX10_packsOf (l : Launch) (D : va_G) (cy : Nat → ClassId) (ad : Nat → Nat → Nat) (μ : zS) (x : Int32) (hc : zbd μ 841 86) : Met l yX10_packsOf (zw yX10_packsOf cX10_packsOf 4 (some .int)) (zrm 0) (va_Pc [.ref (ad 30 0), .int x] (zB D cy (zW D cy ad zsM μ))) (zqR (.int (nI (y_pks μ x)))) 0 0 (fun _ => False) := by
  refine zmet (by decide) rfl (Nat.le_of_ble_eq_true rfl) rfl (fun p e s m below meth c ls X hml hr hlocks hv hl => ?_)
  obtain ⟨hK, hW⟩ := hv
  obtain ⟨hx, hb, -, -⟩ := id X
  have hl : lv_has ls 4 [(0, .ref (ad 30 0)), (1, .int x)] := hl
  refine lv_iconst (v := 0) hx hb dX10_packsOf_0 (by decide) ?_
  refine lv_istore_n (lv' := [(2, .int 0), (0, .ref (ad 30 0)), (1, .int x)]) hx hb dX10_packsOf_1 rfl hl (by decide) rfl (fun ls hl => ?_)
  refine lv_iconst (v := 0) hx hb dX10_packsOf_2 (by decide) ?_
  refine lv_istore_n (lv' := [(3, .int 0), (2, .int 0), (0, .ref (ad 30 0)), (1, .int x)]) hx hb dX10_packsOf_3 rfl hl (by decide) rfl (fun ls hl => ?_)
  have loop4 : ∀ (n : Nat) (k : Nat) (a : Int32) (ls : Array Slot), lv_has ls 4 [(0, .ref (ad 30 0)), (1, .int x), (2, .int a), (3, .int (nI k))] → zn μ 841 + 1 - k < n → (k ≤ zn μ 841) → (a = nI (zct (fun i => decide (zA μ 55 0 i = x)) k)) → W p l e (zrm 0) s m ([.ref (ad 30 0), .int x] : List Value).toArray below meth c s.heap [] 0 0 (MQ below (zqR (.int (nI (y_pks μ x)))) ([.ref (ad 30 0), .int x] : List Value).toArray s 0 0 (fun _ => False)) (F0 m 4 ls []) := by
    intro n
    induction n with
    | zero => intro k a ls hl hm hk ha; exact absurd hm (Nat.not_lt_zero _)
    | succ n ih4 =>
      intro k a ls hl hm hk ha
      refine lv_iload_n hx hb dX10_packsOf_4 rfl (lv_at hl 3 rfl) ?_
      refine lv_aload_n hx hb dX10_packsOf_5 rfl (lv_at hl 0 rfl) ?_
      refine zg8_41 X hK hW m_1147 dX10_packsOf_6 ?_
      refine lv_icmp_ge (tgt := 36) hx hb dX10_packsOf_9 (by decide) (fun b1 => ?_) (fun b1 => ?_)
      · refine lv_iload_n hx hb dX10_packsOf_36 rfl (lv_at hl 2 rfl) ?_
        exact ze_i hx hb hr hlocks (by rw [ha, zge_of hc (by decide) hk b1]; rfl) dX10_packsOf_37
      · have hlt : k < zn μ 841 := zlt_of hc (by decide) hk b1
        have hltN := Nat.lt_of_lt_of_le hlt hc.2
        refine lv_iload_n hx hb dX10_packsOf_12 rfl (lv_at hl 2 rfl) ?_
        refine lv_aload_n hx hb dX10_packsOf_13 rfl (lv_at hl 0 rfl) ?_
        refine zg8_24 X hK hW m_1130 dX10_packsOf_14 ?_
        refine lv_iload_n hx hb dX10_packsOf_17 rfl (lv_at hl 3 rfl) ?_
        refine zan55 X hK hW (by omega) dX10_packsOf_18 ?_
        refine lv_iload_n hx hb dX10_packsOf_19 rfl (lv_at hl 1 rfl) ?_
        refine lv_icmp_ne (tgt := 27) hx hb dX10_packsOf_20 (by decide) (fun b2 => ?_) (fun b2 => ?_)
        · refine lv_iconst (v := 0) hx hb dX10_packsOf_27 (by decide) ?_
          refine lv_iadd hx hb dX10_packsOf_28 ?_
          refine lv_istore_n (lv' := [(2, .int (a + 0)), (0, .ref (ad 30 0)), (1, .int x), (3, .int (nI k))]) hx hb dX10_packsOf_29 rfl hl (by decide) rfl (fun ls hl => ?_)
          refine lv_iinc (v := nI (k + 1)) (lv' := [(3, .int (nI (k + 1))), (2, .int (a + 0)), (0, .ref (ad 30 0)), (1, .int x)]) hx hb dX10_packsOf_30 hl (k := 3) rfl (nI_1 k) (by decide) rfl (fun ls hl => ?_)
          refine lv_goto (tgt := 4) hx hb dX10_packsOf_33 (by decide) ?_
          exact ih4 (k + 1) (a + 0) _ (lv_sub hl [2, 3, 1, 0] rfl) (by omega) hlt (by rw [ha, zct, if_neg (by simp [b1, Int32.not_le.mp b1, b2, Ne.symm b2]), Nat.add_zero]; exact Int32.add_zero _)
        · refine lv_iconst (v := 1) hx hb dX10_packsOf_23 (by decide) ?_
          refine lv_goto (tgt := 28) hx hb dX10_packsOf_24 (by decide) ?_
          refine lv_iadd hx hb dX10_packsOf_28 ?_
          refine lv_istore_n (lv' := [(2, .int (a + 1)), (0, .ref (ad 30 0)), (1, .int x), (3, .int (nI k))]) hx hb dX10_packsOf_29 rfl hl (by decide) rfl (fun ls hl => ?_)
          refine lv_iinc (v := nI (k + 1)) (lv' := [(3, .int (nI (k + 1))), (2, .int (a + 1)), (0, .ref (ad 30 0)), (1, .int x)]) hx hb dX10_packsOf_30 hl (k := 3) rfl (nI_1 k) (by decide) rfl (fun ls hl => ?_)
          refine lv_goto (tgt := 4) hx hb dX10_packsOf_33 (by decide) ?_
          exact ih4 (k + 1) (a + 1) _ (lv_sub hl [2, 3, 1, 0] rfl) (by omega) hlt (by rw [ha, zct, if_pos (by simp [b1, Int32.not_le.mp b1, b2]), ← nI_1])
  exact loop4 _ 0 0 _ (lv_sub hl [2, 3, 1, 0] rfl) (Nat.lt_succ_self _) (Nat.zero_le _) rfl
theorem bsh {pk : Int32} {a : Bool} {p : Nat → Bool} {k n : Nat} (hz : pk = -1 → a = false) (ha : ¬ pk = -1 → a = zany p k) (h : pk = -1 ∨ k = n) : bI a = bI (if pk = -1 then false else zany p n) := by
  by_cases g : pk = -1
  · rw [if_pos g, hz g]
  · rw [if_neg g, ha g]
    rcases h with h | h
    · exact absurd h g
    · rw [h]
theorem zmX10_sharesHook : zmV yX10_sharesHook RX10 cX10_sharesHook 5 (some .boolean) 2 := ⟨m_1364, s_49, m_9, m_1365, rfl, by decide, by decide, by decide +kernel⟩
set_option maxRecDepth 100000 in
set_option maxHeartbeats 4000000 in
theorem ctX10_sharesHook (l : Launch) (D : va_G) (cy : Nat → ClassId) (ad : Nat → Nat → Nat) (μ : zS) (x : Int32) (pk : Int32) (hc : zbd μ 841 86) (hp : ¬ pk = -1 → vp_in pk 86) : Met l yX10_sharesHook (zw yX10_sharesHook cX10_sharesHook 5 (some .boolean)) (zrm 0) (va_Pc [.ref (ad 30 0), .int x, .int pk] (zB D cy (zW D cy ad zsM μ))) (zqR (.int (bI (y_shH μ x pk)))) 0 0 (fun _ => False) := by
  refine zmet (by decide) rfl (Nat.le_of_ble_eq_true rfl) rfl (fun p e s m below meth c ls X hml hr hlocks hv hl => ?_)
  obtain ⟨hK, hW⟩ := hv
  obtain ⟨hx, hb, -, -⟩ := id X
  have hl : lv_has ls 5 [(0, .ref (ad 30 0)), (1, .int x), (2, .int pk)] := hl
  refine lv_iconst (v := 0) hx hb dX10_sharesHook_0 (by decide) ?_
  refine lv_istore_n (lv' := [(3, .int 0), (0, .ref (ad 30 0)), (1, .int x), (2, .int pk)]) hx hb dX10_sharesHook_1 rfl hl (by decide) rfl (fun ls hl => ?_)
  refine lv_iconst (v := 0) hx hb dX10_sharesHook_2 (by decide) ?_
  refine lv_istore (lv' := [(4, .int 0), (3, .int 0), (0, .ref (ad 30 0)), (1, .int x), (2, .int pk)]) hx hb dX10_sharesHook_3 hl (by decide) rfl (fun ls hl => ?_)
  have loop5 : ∀ (n : Nat) (k : Nat) (a : Bool) (ls : Array Slot), lv_has ls 5 [(0, .ref (ad 30 0)), (1, .int x), (2, .int pk), (3, .int (bI a)), (4, .int (nI k))] → zn μ 841 + 1 - k < n → (k ≤ zn μ 841) → (pk = -1 → a = false) → (¬ pk = -1 → a = zany (fun i => decide (zA μ 55 0 i = x) && decide (zA μ 56 0 i = zA μ 56 0 pk.toNatClampNeg)) k) → W p l e (zrm 0) s m ([.ref (ad 30 0), .int x, .int pk] : List Value).toArray below meth c s.heap [] 0 0 (MQ below (zqR (.int (bI (y_shH μ x pk)))) ([.ref (ad 30 0), .int x, .int pk] : List Value).toArray s 0 0 (fun _ => False)) (F0 m 5 ls []) := by
    intro n
    induction n with
    | zero => intro k a ls hl hm hk hz ha; exact absurd hm (Nat.not_lt_zero _)
    | succ n ih5 =>
      intro k a ls hl hm hk hz ha
      refine lv_iload hx hb dX10_sharesHook_5 (lv_at hl 4 rfl) ?_
      refine lv_aload_n hx hb dX10_sharesHook_7 rfl (lv_at hl 0 rfl) ?_
      refine zg8_41 X hK hW m_1147 dX10_sharesHook_8 ?_
      refine lv_icmp_ge (tgt := 62) hx hb dX10_sharesHook_11 (by decide) (fun b1 => ?_) (fun b1 => ?_)
      · refine lv_iload_n hx hb dX10_sharesHook_62 rfl (lv_at hl 3 rfl) ?_
        exact ze_z hx hb hr hlocks (by rw [y_shH]; exact bsh hz ha (Or.inr (zge_of hc (by decide) hk b1))) dX10_sharesHook_63
      · have hlt : k < zn μ 841 := zlt_of hc (by decide) hk b1
        have hltN := Nat.lt_of_lt_of_le hlt hc.2
        refine lv_iload_n hx hb dX10_sharesHook_14 rfl (lv_at hl 2 rfl) ?_
        refine lv_iconst (v := (-1)) hx hb dX10_sharesHook_15 (by decide) ?_
        refine lv_icmp_eq (tgt := 62) hx hb dX10_sharesHook_16 (by decide) (fun b2 => ?_) (fun b2 => ?_)
        · refine lv_iload_n hx hb dX10_sharesHook_62 rfl (lv_at hl 3 rfl) ?_
          exact ze_z hx hb hr hlocks (by rw [y_shH]; exact bsh hz ha (Or.inl b2)) dX10_sharesHook_63
        · refine lv_iload_n hx hb dX10_sharesHook_19 rfl (lv_at hl 3 rfl) ?_
          refine zb_ne (tgt := 50) hx hb dX10_sharesHook_20 (by decide) (fun b3 => ?_) (fun b3 => ?_)
          · refine lv_iconst (v := 1) hx hb dX10_sharesHook_50 (by decide) ?_
            refine lv_goto (tgt := 55) hx hb dX10_sharesHook_51 (by decide) ?_
            refine lv_istore_n (lv' := [(3, .int 1), (0, .ref (ad 30 0)), (1, .int x), (2, .int pk), (4, .int (nI k))]) hx hb dX10_sharesHook_55 rfl hl (by decide) rfl (fun ls hl => ?_)
            refine lv_iinc (v := nI (k + 1)) (lv' := [(4, .int (nI (k + 1))), (3, .int 1), (0, .ref (ad 30 0)), (1, .int x), (2, .int pk)]) hx hb dX10_sharesHook_56 hl (k := 4) rfl (nI_1 k) (by decide) rfl (fun ls hl => ?_)
            refine lv_goto (tgt := 5) hx hb dX10_sharesHook_59 (by decide) ?_
            exact ih5 (k + 1) true _ (lv_sub hl [2, 3, 4, 1, 0] rfl) (by omega) hlt (fun h => absurd h b2) (fun _ => by rw [zany, ← ha b2]; simp [b1, Int32.not_le.mp b1, b2, Ne.symm b2, b3])
          · refine lv_aload_n hx hb dX10_sharesHook_23 rfl (lv_at hl 0 rfl) ?_
            refine zg8_24 X hK hW m_1130 dX10_sharesHook_24 ?_
            refine lv_iload hx hb dX10_sharesHook_27 (lv_at hl 4 rfl) ?_
            refine zan55 X hK hW (by omega) dX10_sharesHook_29 ?_
            refine lv_iload_n hx hb dX10_sharesHook_30 rfl (lv_at hl 1 rfl) ?_
            refine lv_icmp_ne (tgt := 54) hx hb dX10_sharesHook_31 (by decide) (fun b4 => ?_) (fun b4 => ?_)
            · refine lv_iconst (v := 0) hx hb dX10_sharesHook_54 (by decide) ?_
              refine lv_istore_n (lv' := [(3, .int 0), (0, .ref (ad 30 0)), (1, .int x), (2, .int pk), (4, .int (nI k))]) hx hb dX10_sharesHook_55 rfl hl (by decide) rfl (fun ls hl => ?_)
              refine lv_iinc (v := nI (k + 1)) (lv' := [(4, .int (nI (k + 1))), (3, .int 0), (0, .ref (ad 30 0)), (1, .int x), (2, .int pk)]) hx hb dX10_sharesHook_56 hl (k := 4) rfl (nI_1 k) (by decide) rfl (fun ls hl => ?_)
              refine lv_goto (tgt := 5) hx hb dX10_sharesHook_59 (by decide) ?_
              exact ih5 (k + 1) false _ (lv_sub hl [2, 3, 4, 1, 0] rfl) (by omega) hlt (fun h => absurd h b2) (fun _ => by rw [zany, ← ha b2]; simp [b1, Int32.not_le.mp b1, b2, Ne.symm b2, b3, b4, Ne.symm b4])
            · refine lv_aload_n hx hb dX10_sharesHook_34 rfl (lv_at hl 0 rfl) ?_
              refine zg8_25 X hK hW m_1131 dX10_sharesHook_35 ?_
              refine lv_iload hx hb dX10_sharesHook_38 (lv_at hl 4 rfl) ?_
              refine zan56 X hK hW (by omega) dX10_sharesHook_40 ?_
              refine lv_aload_n hx hb dX10_sharesHook_41 rfl (lv_at hl 0 rfl) ?_
              refine zg8_25 X hK hW m_1131 dX10_sharesHook_42 ?_
              have hpk := vp_up (hp b2) (show (86 : Nat) ≤ 120 by decide) (by decide)
              refine lv_iload_n hx hb dX10_sharesHook_45 rfl (lv_at hl 2 rfl) ?_
              refine za56 X hK hW hpk dX10_sharesHook_46 ?_
              refine lv_icmp_ne (tgt := 54) hx hb dX10_sharesHook_47 (by decide) (fun b5 => ?_) (fun b5 => ?_)
              · refine lv_iconst (v := 0) hx hb dX10_sharesHook_54 (by decide) ?_
                refine lv_istore_n (lv' := [(3, .int 0), (0, .ref (ad 30 0)), (1, .int x), (2, .int pk), (4, .int (nI k))]) hx hb dX10_sharesHook_55 rfl hl (by decide) rfl (fun ls hl => ?_)
                refine lv_iinc (v := nI (k + 1)) (lv' := [(4, .int (nI (k + 1))), (3, .int 0), (0, .ref (ad 30 0)), (1, .int x), (2, .int pk)]) hx hb dX10_sharesHook_56 hl (k := 4) rfl (nI_1 k) (by decide) rfl (fun ls hl => ?_)
                refine lv_goto (tgt := 5) hx hb dX10_sharesHook_59 (by decide) ?_
                exact ih5 (k + 1) false _ (lv_sub hl [2, 3, 4, 1, 0] rfl) (by omega) hlt (fun h => absurd h b2) (fun _ => by rw [zany, ← ha b2]; simp [b1, Int32.not_le.mp b1, b2, Ne.symm b2, b3, b4, b5, Ne.symm b5])
              · refine lv_iconst (v := 1) hx hb dX10_sharesHook_50 (by decide) ?_
                refine lv_goto (tgt := 55) hx hb dX10_sharesHook_51 (by decide) ?_
                refine lv_istore_n (lv' := [(3, .int 1), (0, .ref (ad 30 0)), (1, .int x), (2, .int pk), (4, .int (nI k))]) hx hb dX10_sharesHook_55 rfl hl (by decide) rfl (fun ls hl => ?_)
                refine lv_iinc (v := nI (k + 1)) (lv' := [(4, .int (nI (k + 1))), (3, .int 1), (0, .ref (ad 30 0)), (1, .int x), (2, .int pk)]) hx hb dX10_sharesHook_56 hl (k := 4) rfl (nI_1 k) (by decide) rfl (fun ls hl => ?_)
                refine lv_goto (tgt := 5) hx hb dX10_sharesHook_59 (by decide) ?_
                exact ih5 (k + 1) true _ (lv_sub hl [2, 3, 4, 1, 0] rfl) (by omega) hlt (fun h => absurd h b2) (fun _ => by rw [zany, ← ha b2]; simp [b1, Int32.not_le.mp b1, b2, Ne.symm b2, b3, b4, b5])
  exact loop5 _ 0 false _ (lv_sub hl [2, 3, 4, 1, 0] rfl) (Nat.lt_succ_self _) (Nat.zero_le _) (fun _ => rfl) (fun _ => rfl)
theorem zge5 {μ : zS} {k : Nat} (hc : zbd μ 841 86) (hk : k ≤ 5 * zn μ 841) (h : 5 * zI μ 841 0 ≤ nI k) : k = 5 * zn μ 841 := by
  have := hc.2
  rw [hc.1, nI_m5] at h
  have := znle (by omega) (by omega) h
  omega
theorem zlt5m {μ : zS} {k : Nat} (hc : zbd μ 841 86) (hk : k ≤ 5 * zn μ 841) (h : ¬ 5 * zI μ 841 0 ≤ nI k) : k < 5 * zn μ 841 := by
  have := hc.2
  rw [hc.1, nI_m5] at h
  exact znlt (by omega) (by omega) h
theorem zmX10_sharesRigger : zmV yX10_sharesRigger RX10 cX10_sharesRigger 5 (some .boolean) 2 := ⟨m_1368, s_50, m_9, m_1369, rfl, by decide, by decide, by decide +kernel⟩
set_option maxRecDepth 100000 in
set_option maxHeartbeats 4000000 in
theorem ctX10_sharesRigger (l : Launch) (D : va_G) (cy : Nat → ClassId) (ad : Nat → Nat → Nat) (μ : zS) (x : Int32) (pk : Int32) (hc : zbd μ 841 86) (hp : ¬ pk = -1 → vp_in pk 86) : Met l yX10_sharesRigger (zw yX10_sharesRigger cX10_sharesRigger 5 (some .boolean)) (zrm 0) (va_Pc [.ref (ad 30 0), .int x, .int pk] (zB D cy (zW D cy ad zsM μ))) (zqR (.int (bI (y_shR μ x pk)))) 0 0 (fun _ => False) := by
  refine zmet (by decide) rfl (Nat.le_of_ble_eq_true rfl) rfl (fun p e s m below meth c ls X hml hr hlocks hv hl => ?_)
  obtain ⟨hK, hW⟩ := hv
  obtain ⟨hx, hb, -, -⟩ := id X
  have hl : lv_has ls 5 [(0, .ref (ad 30 0)), (1, .int x), (2, .int pk)] := hl
  refine lv_iconst (v := 0) hx hb dX10_sharesRigger_0 (by decide) ?_
  refine lv_istore_n (lv' := [(3, .int 0), (0, .ref (ad 30 0)), (1, .int x), (2, .int pk)]) hx hb dX10_sharesRigger_1 rfl hl (by decide) rfl (fun ls hl => ?_)
  refine lv_iconst (v := 0) hx hb dX10_sharesRigger_2 (by decide) ?_
  refine lv_istore (lv' := [(4, .int 0), (3, .int 0), (0, .ref (ad 30 0)), (1, .int x), (2, .int pk)]) hx hb dX10_sharesRigger_3 hl (by decide) rfl (fun ls hl => ?_)
  have loop5 : ∀ (n : Nat) (k : Nat) (a : Bool) (ls : Array Slot), lv_has ls 5 [(0, .ref (ad 30 0)), (1, .int x), (2, .int pk), (3, .int (bI a)), (4, .int (nI k))] → 5 * zn μ 841 + 1 - k < n → (k ≤ 5 * zn μ 841) → (pk = -1 → a = false) → (¬ pk = -1 → a = zany (fun i => decide (zA μ 55 0 (i / 5) = x) && decide (zA μ 58 0 i = zA μ 58 0 (5 * pk.toNatClampNeg + i % 5))) k) → W p l e (zrm 0) s m ([.ref (ad 30 0), .int x, .int pk] : List Value).toArray below meth c s.heap [] 0 0 (MQ below (zqR (.int (bI (y_shR μ x pk)))) ([.ref (ad 30 0), .int x, .int pk] : List Value).toArray s 0 0 (fun _ => False)) (F0 m 5 ls []) := by
    intro n
    induction n with
    | zero => intro k a ls hl hm hk hz ha; exact absurd hm (Nat.not_lt_zero _)
    | succ n ih5 =>
      intro k a ls hl hm hk hz ha
      refine lv_iload hx hb dX10_sharesRigger_5 (lv_at hl 4 rfl) ?_
      refine lv_iconst (v := 5) hx hb dX10_sharesRigger_7 (by decide) ?_
      refine lv_aload_n hx hb dX10_sharesRigger_8 rfl (lv_at hl 0 rfl) ?_
      refine zg8_41 X hK hW m_1147 dX10_sharesRigger_9 ?_
      refine lv_imul hx hb dX10_sharesRigger_12 ?_
      refine lv_icmp_ge (tgt := 73) hx hb dX10_sharesRigger_13 (by decide) (fun b1 => ?_) (fun b1 => ?_)
      · refine lv_iload_n hx hb dX10_sharesRigger_73 rfl (lv_at hl 3 rfl) ?_
        exact ze_z hx hb hr hlocks (by rw [y_shR]; exact bsh hz ha (Or.inr (zge5 hc hk b1))) dX10_sharesRigger_74
      · have hlt : k < 5 * zn μ 841 := zlt5m hc hk b1
        have hltN := hc.2
        refine lv_iload_n hx hb dX10_sharesRigger_16 rfl (lv_at hl 2 rfl) ?_
        refine lv_iconst (v := (-1)) hx hb dX10_sharesRigger_17 (by decide) ?_
        refine lv_icmp_eq (tgt := 73) hx hb dX10_sharesRigger_18 (by decide) (fun b2 => ?_) (fun b2 => ?_)
        · refine lv_iload_n hx hb dX10_sharesRigger_73 rfl (lv_at hl 3 rfl) ?_
          exact ze_z hx hb hr hlocks (by rw [y_shR]; exact bsh hz ha (Or.inl b2)) dX10_sharesRigger_74
        · obtain ⟨j, hj, hje⟩ := vp_in_of (hp b2) (by decide)
          have hjc : pk.toNatClampNeg = j := by rw [hje, nI_clamp (by omega)]
          refine lv_iload_n hx hb dX10_sharesRigger_21 rfl (lv_at hl 3 rfl) ?_
          refine zb_ne (tgt := 61) hx hb dX10_sharesRigger_22 (by decide) (fun b3 => ?_) (fun b3 => ?_)
          · refine lv_iconst (v := 1) hx hb dX10_sharesRigger_61 (by decide) ?_
            refine lv_goto (tgt := 66) hx hb dX10_sharesRigger_62 (by decide) ?_
            refine lv_istore_n (lv' := [(3, .int 1), (0, .ref (ad 30 0)), (1, .int x), (2, .int pk), (4, .int (nI k))]) hx hb dX10_sharesRigger_66 rfl hl (by decide) rfl (fun ls hl => ?_)
            refine lv_iinc (v := nI (k + 1)) (lv' := [(4, .int (nI (k + 1))), (3, .int 1), (0, .ref (ad 30 0)), (1, .int x), (2, .int pk)]) hx hb dX10_sharesRigger_67 hl (k := 4) rfl (nI_1 k) (by decide) rfl (fun ls hl => ?_)
            refine lv_goto (tgt := 5) hx hb dX10_sharesRigger_70 (by decide) ?_
            exact ih5 (k + 1) true _ (lv_sub hl [2, 3, 4, 1, 0] rfl) (by omega) hlt (fun h => absurd h b2) (fun _ => by rw [zany, ← ha b2]; simp [hjc, b1, Int32.not_le.mp b1, b2, Ne.symm b2, b3])
          · refine lv_aload_n hx hb dX10_sharesRigger_25 rfl (lv_at hl 0 rfl) ?_
            refine zg8_24 X hK hW m_1130 dX10_sharesRigger_26 ?_
            refine lv_iload hx hb dX10_sharesRigger_29 (lv_at hl 4 rfl) ?_
            refine lv_iconst (v := 5) hx hb dX10_sharesRigger_31 (by decide) ?_
            refine lv_idiv hx hb dX10_sharesRigger_32 (by decide) ?_
            rw [nI_d5 (k := k) (by omega)]
            refine zan55 X hK hW (by omega) dX10_sharesRigger_33 ?_
            refine lv_iload_n hx hb dX10_sharesRigger_34 rfl (lv_at hl 1 rfl) ?_
            refine lv_icmp_ne (tgt := 65) hx hb dX10_sharesRigger_35 (by decide) (fun b4 => ?_) (fun b4 => ?_)
            · refine lv_iconst (v := 0) hx hb dX10_sharesRigger_65 (by decide) ?_
              refine lv_istore_n (lv' := [(3, .int 0), (0, .ref (ad 30 0)), (1, .int x), (2, .int pk), (4, .int (nI k))]) hx hb dX10_sharesRigger_66 rfl hl (by decide) rfl (fun ls hl => ?_)
              refine lv_iinc (v := nI (k + 1)) (lv' := [(4, .int (nI (k + 1))), (3, .int 0), (0, .ref (ad 30 0)), (1, .int x), (2, .int pk)]) hx hb dX10_sharesRigger_67 hl (k := 4) rfl (nI_1 k) (by decide) rfl (fun ls hl => ?_)
              refine lv_goto (tgt := 5) hx hb dX10_sharesRigger_70 (by decide) ?_
              exact ih5 (k + 1) false _ (lv_sub hl [2, 3, 4, 1, 0] rfl) (by omega) hlt (fun h => absurd h b2) (fun _ => by rw [zany, ← ha b2]; simp [hjc, b1, Int32.not_le.mp b1, b2, Ne.symm b2, b3, b4, Ne.symm b4])
            · refine lv_aload_n hx hb dX10_sharesRigger_38 rfl (lv_at hl 0 rfl) ?_
              refine zg8_27 X hK hW m_1133 dX10_sharesRigger_39 ?_
              refine lv_iload hx hb dX10_sharesRigger_42 (lv_at hl 4 rfl) ?_
              refine zan58 X hK hW (by omega) dX10_sharesRigger_44 ?_
              refine lv_aload_n hx hb dX10_sharesRigger_45 rfl (lv_at hl 0 rfl) ?_
              refine zg8_27 X hK hW m_1133 dX10_sharesRigger_46 ?_
              refine lv_iconst (v := 5) hx hb dX10_sharesRigger_49 (by decide) ?_
              refine lv_iload_n hx hb dX10_sharesRigger_50 rfl (lv_at hl 2 rfl) ?_
              refine lv_imul hx hb dX10_sharesRigger_51 ?_
              refine lv_iload hx hb dX10_sharesRigger_52 (lv_at hl 4 rfl) ?_
              refine lv_iconst (v := 5) hx hb dX10_sharesRigger_54 (by decide) ?_
              refine lv_irem hx hb dX10_sharesRigger_55 (by decide) ?_
              refine lv_iadd hx hb dX10_sharesRigger_56 ?_
              rw [show 5 * pk + (nI k - nI k / 5 * 5) = nI (5 * j + k % 5) by rw [hje, nI_m5, nI_r5 (by omega), nI_add]]
              refine zan58 X hK hW (by omega) dX10_sharesRigger_57 ?_
              refine lv_icmp_ne (tgt := 65) hx hb dX10_sharesRigger_58 (by decide) (fun b5 => ?_) (fun b5 => ?_)
              · refine lv_iconst (v := 0) hx hb dX10_sharesRigger_65 (by decide) ?_
                refine lv_istore_n (lv' := [(3, .int 0), (0, .ref (ad 30 0)), (1, .int x), (2, .int pk), (4, .int (nI k))]) hx hb dX10_sharesRigger_66 rfl hl (by decide) rfl (fun ls hl => ?_)
                refine lv_iinc (v := nI (k + 1)) (lv' := [(4, .int (nI (k + 1))), (3, .int 0), (0, .ref (ad 30 0)), (1, .int x), (2, .int pk)]) hx hb dX10_sharesRigger_67 hl (k := 4) rfl (nI_1 k) (by decide) rfl (fun ls hl => ?_)
                refine lv_goto (tgt := 5) hx hb dX10_sharesRigger_70 (by decide) ?_
                exact ih5 (k + 1) false _ (lv_sub hl [2, 3, 4, 1, 0] rfl) (by omega) hlt (fun h => absurd h b2) (fun _ => by rw [zany, ← ha b2]; simp [hjc, b1, Int32.not_le.mp b1, b2, Ne.symm b2, b3, b4, b5, Ne.symm b5])
              · refine lv_iconst (v := 1) hx hb dX10_sharesRigger_61 (by decide) ?_
                refine lv_goto (tgt := 66) hx hb dX10_sharesRigger_62 (by decide) ?_
                refine lv_istore_n (lv' := [(3, .int 1), (0, .ref (ad 30 0)), (1, .int x), (2, .int pk), (4, .int (nI k))]) hx hb dX10_sharesRigger_66 rfl hl (by decide) rfl (fun ls hl => ?_)
                refine lv_iinc (v := nI (k + 1)) (lv' := [(4, .int (nI (k + 1))), (3, .int 1), (0, .ref (ad 30 0)), (1, .int x), (2, .int pk)]) hx hb dX10_sharesRigger_67 hl (k := 4) rfl (nI_1 k) (by decide) rfl (fun ls hl => ?_)
                refine lv_goto (tgt := 5) hx hb dX10_sharesRigger_70 (by decide) ?_
                exact ih5 (k + 1) true _ (lv_sub hl [2, 3, 4, 1, 0] rfl) (by omega) hlt (fun h => absurd h b2) (fun _ => by rw [zany, ← ha b2]; simp [hjc, b1, Int32.not_le.mp b1, b2, Ne.symm b2, b3, b4, b5])
  exact loop5 _ 0 false _ (lv_sub hl [2, 3, 4, 1, 0] rfl) (Nat.lt_succ_self _) (Nat.zero_le _) (fun _ => rfl) (fun _ => rfl)
theorem zmX10_reaches : zmV yX10_reaches RX10 cX10_reaches 6 (some .boolean) 2 := ⟨m_1360, s_48, m_9, m_1361, rfl, by decide, by decide, by decide +kernel⟩
set_option maxRecDepth 100000 in
set_option maxHeartbeats 4000000 in
theorem ctX10_reaches (l : Launch) (D : va_G) (cy : Nat → ClassId) (ad : Nat → Nat → Nat) (μ : zS) (f : Nat) (hi_f : f < 12) (u : Nat) (hi_u : u < 24) (hc : zbd μ 841 86) (hf : vp_in (zA μ 63 0 f) 24) (hp : ¬ zA μ 64 0 f = -1 → vp_in (zA μ 64 0 f) 86) : Met l yX10_reaches (zw yX10_reaches cX10_reaches 6 (some .boolean)) (zrm 1) (va_Pc [.ref (ad 30 0), .int (nI f), .int (nI u)] (zB D cy (zW D cy ad zsM μ))) (zqR (.int (bI (y_reach μ f u)))) 0 0 (fun _ => False) := by
  refine zmet (by decide) rfl (Nat.le_of_ble_eq_true rfl) rfl (fun p e s m below meth c ls X hml hr hlocks hv hl => ?_)
  obtain ⟨hK, hW⟩ := hv
  obtain ⟨hx, hb, -, -⟩ := id X
  have hl : lv_has ls 6 [(0, .ref (ad 30 0)), (1, .int (nI f)), (2, .int (nI u))] := hl
  refine lv_aload_n hx hb dX10_reaches_0 rfl (lv_at hl 0 rfl) ?_
  refine zg8_32 X hK hW m_1138 dX10_reaches_1 ?_
  refine lv_iload_n hx hb dX10_reaches_4 rfl (lv_at hl 1 rfl) ?_
  refine zan63 X hK hW (by omega) dX10_reaches_5 ?_
  refine lv_istore_n (lv' := [(3, .int (zA μ 63 0 f)), (0, .ref (ad 30 0)), (1, .int (nI f)), (2, .int (nI u))]) hx hb dX10_reaches_6 rfl hl (by decide) rfl (fun ls hl => ?_)
  refine lv_aload_n hx hb dX10_reaches_7 rfl (lv_at hl 1 rfl) ?_
  refine zg8_37 X hK hW m_1143 dX10_reaches_8 ?_
  refine lv_iload_n hx hb dX10_reaches_11 rfl (lv_at hl 2 rfl) ?_
  refine zan68 X hK hW (by omega) dX10_reaches_12 ?_
  refine lv_iconst (v := 1) hx hb dX10_reaches_13 (by decide) ?_
  refine lv_icmp_ne (tgt := 19) hx hb dX10_reaches_14 (by decide) (fun b1 => ?_) (fun b1 => ?_)
  · refine lv_iload_n hx hb dX10_reaches_19 rfl (lv_at hl 0 rfl) ?_
    refine lv_iload_n hx hb dX10_reaches_20 rfl (lv_at hl 3 rfl) ?_
    refine lv_icmp_ne (tgt := 26) hx hb dX10_reaches_21 (by decide) (fun b2 => ?_) (fun b2 => ?_)
    · refine lv_aload_n hx hb dX10_reaches_26 rfl (lv_at hl 1 rfl) ?_
      refine zg8_4 X hK hW m_1110 dX10_reaches_27 ?_
      refine lv_iload_n hx hb dX10_reaches_30 rfl (lv_at hl 3 rfl) ?_
      refine zan35 X hK hW (by omega) dX10_reaches_31 ?_
      refine lv_aload_n hx hb dX10_reaches_32 rfl (lv_at hl 1 rfl) ?_
      refine zg8_4 X hK hW m_1110 dX10_reaches_33 ?_
      refine lv_iload_n hx hb dX10_reaches_36 rfl (lv_at hl 0 rfl) ?_
      refine za35 X hK hW hf dX10_reaches_37 ?_
      refine lv_icmp_ne (tgt := 45) hx hb dX10_reaches_38 (by decide) (fun b3 => ?_) (fun b3 => ?_)
      · refine lv_iconst (v := 0) hx hb dX10_reaches_45 (by decide) ?_
        refine lv_istore (lv' := [(4, .int 0), (3, .int (zA μ 63 0 f)), (0, .ref (ad 30 0)), (1, .int (nI f)), (2, .int (nI u))]) hx hb dX10_reaches_46 hl (by decide) rfl (fun ls hl => ?_)
        refine lv_aload_n hx hb dX10_reaches_48 rfl (lv_at hl 2 rfl) ?_
        refine zg8_3 X hK hW m_1109 dX10_reaches_49 ?_
        refine lv_iload_n hx hb dX10_reaches_52 rfl (lv_at hl 4 rfl) ?_
        refine zan34 X hK hW (by omega) dX10_reaches_53 ?_
        refine lv_aload_n hx hb dX10_reaches_54 rfl (lv_at hl 2 rfl) ?_
        refine zg8_3 X hK hW m_1109 dX10_reaches_55 ?_
        refine lv_iload_n hx hb dX10_reaches_58 rfl (lv_at hl 1 rfl) ?_
        refine za34 X hK hW hf dX10_reaches_59 ?_
        refine lv_icmp_ne (tgt := 67) hx hb dX10_reaches_60 (by decide) (fun b4 => ?_) (fun b4 => ?_)
        · refine lv_iconst (v := 0) hx hb dX10_reaches_67 (by decide) ?_
          refine lv_istore (lv' := [(5, .int 0), (4, .int 0), (3, .int (zA μ 63 0 f)), (0, .ref (ad 30 0)), (1, .int (nI f)), (2, .int (nI u))]) hx hb dX10_reaches_68 hl (by decide) rfl (fun ls hl => ?_)
          refine lv_aload_n hx hb dX10_reaches_70 rfl (lv_at hl 3 rfl) ?_
          refine zg8_36 X hK hW m_1142 dX10_reaches_71 ?_
          refine lv_iload_n hx hb dX10_reaches_74 rfl (lv_at hl 4 rfl) ?_
          refine zan67 X hK hW (by omega) dX10_reaches_75 ?_
          refine lv_bipush (v := 45) hx hb dX10_reaches_76 (by decide) ?_
          refine lv_icmp_eq (tgt := 169) hx hb dX10_reaches_78 (by decide) (fun b5 => ?_) (fun b5 => ?_)
          · refine lv_aload_n hx hb dX10_reaches_169 rfl (lv_at hl 3 rfl) ?_
            refine zg8_35 X hK hW m_1141 dX10_reaches_170 ?_
            refine lv_iload_n hx hb dX10_reaches_173 rfl (lv_at hl 4 rfl) ?_
            refine zan66 X hK hW (by omega) dX10_reaches_174 ?_
            refine lv_if_le (tgt := 183) hx hb dX10_reaches_175 (by decide) (fun b6 => ?_) (fun b6 => ?_)
            · refine lv_aload_n hx hb dX10_reaches_183 rfl (lv_at hl 3 rfl) ?_
              refine zg8_35 X hK hW m_1141 dX10_reaches_184 ?_
              refine lv_iload_n hx hb dX10_reaches_187 rfl (lv_at hl 4 rfl) ?_
              refine zan66 X hK hW (by omega) dX10_reaches_188 ?_
              refine lv_iconst (v := 1) hx hb dX10_reaches_189 (by decide) ?_
              refine lv_icmp_le (tgt := 207) hx hb dX10_reaches_190 (by decide) (fun b7 => ?_) (fun b7 => ?_)
              · refine lv_aload_n hx hb dX10_reaches_207 rfl (lv_at hl 3 rfl) ?_
                refine zg8_35 X hK hW m_1141 dX10_reaches_208 ?_
                refine lv_iload_n hx hb dX10_reaches_211 rfl (lv_at hl 4 rfl) ?_
                refine zan66 X hK hW (by omega) dX10_reaches_212 ?_
                refine lv_iconst (v := 2) hx hb dX10_reaches_213 (by decide) ?_
                refine lv_icmp_le (tgt := 231) hx hb dX10_reaches_214 (by decide) (fun b8 => ?_) (fun b8 => ?_)
                · refine lv_aload_n hx hb dX10_reaches_231 rfl (lv_at hl 3 rfl) ?_
                  refine zg8_35 X hK hW m_1141 dX10_reaches_232 ?_
                  refine lv_iload_n hx hb dX10_reaches_235 rfl (lv_at hl 4 rfl) ?_
                  refine zan66 X hK hW (by omega) dX10_reaches_236 ?_
                  refine lv_iconst (v := 3) hx hb dX10_reaches_237 (by decide) ?_
                  refine lv_icmp_le (tgt := 250) hx hb dX10_reaches_238 (by decide) (fun b9 => ?_) (fun b9 => ?_)
                  · refine lv_iconst (v := 0) hx hb dX10_reaches_250 (by decide) ?_
                    exact ze_z hx hb hr hlocks (by simp [bI_t, bI_f, y_reach, b1, Ne.symm b1, b2, Ne.symm b2, b3, Ne.symm b3, b4, Ne.symm b4, b5, b6, Int32.not_lt.mpr b6, b7, Int32.not_lt.mpr b7, b8, Int32.not_lt.mpr b8, b9, Int32.not_lt.mpr b9]) dX10_reaches_251
                  · refine lv_iload hx hb dX10_reaches_241 (lv_at hl 0 rfl) ?_
                    refine lv_if_eq (tgt := 250) hx hb dX10_reaches_243 (by decide) (fun _ => ?_) (fun h => absurd h (by decide))
                    refine lv_iconst (v := 0) hx hb dX10_reaches_250 (by decide) ?_
                    exact ze_z hx hb hr hlocks (by simp [bI_t, bI_f, y_reach, b1, Ne.symm b1, b2, Ne.symm b2, b3, Ne.symm b3, b4, Ne.symm b4, b5, b6, Int32.not_lt.mpr b6, b7, Int32.not_lt.mpr b7, b8, Int32.not_lt.mpr b8, b9, Int32.not_le.mp b9]) dX10_reaches_251
                · refine lv_aload_n hx hb dX10_reaches_217 rfl (lv_at hl 3 rfl) ?_
                  refine lv_iload_n hx hb dX10_reaches_218 rfl (lv_at hl 5 rfl) ?_
                  refine lv_aload_n hx hb dX10_reaches_219 rfl (lv_at hl 3 rfl) ?_
                  refine zg8_33 X hK hW m_1139 dX10_reaches_220 ?_
                  refine lv_iload_n hx hb dX10_reaches_223 rfl (lv_at hl 4 rfl) ?_
                  refine zan64 X hK hW (by omega) dX10_reaches_224 ?_
                  refine zcallRV (As := [.int (nI u), .int (zA μ 64 0 f)]) (rest := []) X hml hK hW (ctX10_sharesRigger l D cy ad μ (nI u) (zA μ 64 0 f) hc hp) zmX10_sharesRigger (by decide) m_1366 (zrecv hK (hW 30 0 rfl (by decide)) rfl) ⟨Nat.le_of_ble_eq_true rfl, Nat.le_of_ble_eq_true rfl⟩ ⟨Nat.zero_le _, Nat.zero_le _⟩ rfl hl.1 rfl (Nat.le_of_ble_eq_true rfl) dX10_reaches_225 ?_
                  refine zb_ne (tgt := 246) hx hb dX10_reaches_228 (by decide) (fun b11 => ?_) (fun b11 => ?_)
                  · refine lv_iconst (v := 1) hx hb dX10_reaches_246 (by decide) ?_
                    refine lv_goto (tgt := 251) hx hb dX10_reaches_247 (by decide) ?_
                    exact ze_z hx hb hr hlocks (by simp [bI_t, bI_f, y_reach, b1, Ne.symm b1, b2, Ne.symm b2, b3, Ne.symm b3, b4, Ne.symm b4, b5, b6, Int32.not_lt.mpr b6, b7, Int32.not_lt.mpr b7, b8, Int32.not_le.mp b8, b11]) dX10_reaches_251
                  · refine lv_aload_n hx hb dX10_reaches_231 rfl (lv_at hl 3 rfl) ?_
                    refine zg8_35 X hK hW m_1141 dX10_reaches_232 ?_
                    refine lv_iload_n hx hb dX10_reaches_235 rfl (lv_at hl 4 rfl) ?_
                    refine zan66 X hK hW (by omega) dX10_reaches_236 ?_
                    refine lv_iconst (v := 3) hx hb dX10_reaches_237 (by decide) ?_
                    refine lv_icmp_le (tgt := 250) hx hb dX10_reaches_238 (by decide) (fun b12 => ?_) (fun b12 => ?_)
                    · refine lv_iconst (v := 0) hx hb dX10_reaches_250 (by decide) ?_
                      exact ze_z hx hb hr hlocks (by simp [bI_t, bI_f, y_reach, b1, Ne.symm b1, b2, Ne.symm b2, b3, Ne.symm b3, b4, Ne.symm b4, b5, b6, Int32.not_lt.mpr b6, b7, Int32.not_lt.mpr b7, b8, Int32.not_le.mp b8, b11, b12, Int32.not_lt.mpr b12]) dX10_reaches_251
                    · refine lv_iload hx hb dX10_reaches_241 (lv_at hl 0 rfl) ?_
                      refine lv_if_eq (tgt := 250) hx hb dX10_reaches_243 (by decide) (fun _ => ?_) (fun h => absurd h (by decide))
                      refine lv_iconst (v := 0) hx hb dX10_reaches_250 (by decide) ?_
                      exact ze_z hx hb hr hlocks (by simp [bI_t, bI_f, y_reach, b1, Ne.symm b1, b2, Ne.symm b2, b3, Ne.symm b3, b4, Ne.symm b4, b5, b6, Int32.not_lt.mpr b6, b7, Int32.not_lt.mpr b7, b8, Int32.not_le.mp b8, b11, b12, Int32.not_le.mp b12]) dX10_reaches_251
              · refine lv_aload_n hx hb dX10_reaches_193 rfl (lv_at hl 3 rfl) ?_
                refine lv_iload_n hx hb dX10_reaches_194 rfl (lv_at hl 5 rfl) ?_
                refine lv_aload_n hx hb dX10_reaches_195 rfl (lv_at hl 3 rfl) ?_
                refine zg8_33 X hK hW m_1139 dX10_reaches_196 ?_
                refine lv_iload_n hx hb dX10_reaches_199 rfl (lv_at hl 4 rfl) ?_
                refine zan64 X hK hW (by omega) dX10_reaches_200 ?_
                refine zcallRV (As := [.int (nI u), .int (zA μ 64 0 f)]) (rest := []) X hml hK hW (ctX10_sharesHook l D cy ad μ (nI u) (zA μ 64 0 f) hc hp) zmX10_sharesHook (by decide) m_1362 (zrecv hK (hW 30 0 rfl (by decide)) rfl) ⟨Nat.le_of_ble_eq_true rfl, Nat.le_of_ble_eq_true rfl⟩ ⟨Nat.zero_le _, Nat.zero_le _⟩ rfl hl.1 rfl (Nat.le_of_ble_eq_true rfl) dX10_reaches_201 ?_
                refine zb_ne (tgt := 246) hx hb dX10_reaches_204 (by decide) (fun b14 => ?_) (fun b14 => ?_)
                · refine lv_iconst (v := 1) hx hb dX10_reaches_246 (by decide) ?_
                  refine lv_goto (tgt := 251) hx hb dX10_reaches_247 (by decide) ?_
                  exact ze_z hx hb hr hlocks (by simp [bI_t, bI_f, y_reach, b1, Ne.symm b1, b2, Ne.symm b2, b3, Ne.symm b3, b4, Ne.symm b4, b5, b6, Int32.not_lt.mpr b6, b7, Int32.not_le.mp b7, b14]) dX10_reaches_251
                · refine lv_aload_n hx hb dX10_reaches_207 rfl (lv_at hl 3 rfl) ?_
                  refine zg8_35 X hK hW m_1141 dX10_reaches_208 ?_
                  refine lv_iload_n hx hb dX10_reaches_211 rfl (lv_at hl 4 rfl) ?_
                  refine zan66 X hK hW (by omega) dX10_reaches_212 ?_
                  refine lv_iconst (v := 2) hx hb dX10_reaches_213 (by decide) ?_
                  refine lv_icmp_le (tgt := 231) hx hb dX10_reaches_214 (by decide) (fun b15 => ?_) (fun b15 => ?_)
                  · refine lv_aload_n hx hb dX10_reaches_231 rfl (lv_at hl 3 rfl) ?_
                    refine zg8_35 X hK hW m_1141 dX10_reaches_232 ?_
                    refine lv_iload_n hx hb dX10_reaches_235 rfl (lv_at hl 4 rfl) ?_
                    refine zan66 X hK hW (by omega) dX10_reaches_236 ?_
                    refine lv_iconst (v := 3) hx hb dX10_reaches_237 (by decide) ?_
                    refine lv_icmp_le (tgt := 250) hx hb dX10_reaches_238 (by decide) (fun b16 => ?_) (fun b16 => ?_)
                    · refine lv_iconst (v := 0) hx hb dX10_reaches_250 (by decide) ?_
                      exact ze_z hx hb hr hlocks (by simp [bI_t, bI_f, y_reach, b1, Ne.symm b1, b2, Ne.symm b2, b3, Ne.symm b3, b4, Ne.symm b4, b5, b6, Int32.not_lt.mpr b6, b7, Int32.not_le.mp b7, b14, b15, Int32.not_lt.mpr b15, b16, Int32.not_lt.mpr b16]) dX10_reaches_251
                    · refine lv_iload hx hb dX10_reaches_241 (lv_at hl 0 rfl) ?_
                      refine lv_if_eq (tgt := 250) hx hb dX10_reaches_243 (by decide) (fun _ => ?_) (fun h => absurd h (by decide))
                      refine lv_iconst (v := 0) hx hb dX10_reaches_250 (by decide) ?_
                      exact ze_z hx hb hr hlocks (by simp [bI_t, bI_f, y_reach, b1, Ne.symm b1, b2, Ne.symm b2, b3, Ne.symm b3, b4, Ne.symm b4, b5, b6, Int32.not_lt.mpr b6, b7, Int32.not_le.mp b7, b14, b15, Int32.not_lt.mpr b15, b16, Int32.not_le.mp b16]) dX10_reaches_251
                  · refine lv_aload_n hx hb dX10_reaches_217 rfl (lv_at hl 3 rfl) ?_
                    refine lv_iload_n hx hb dX10_reaches_218 rfl (lv_at hl 5 rfl) ?_
                    refine lv_aload_n hx hb dX10_reaches_219 rfl (lv_at hl 3 rfl) ?_
                    refine zg8_33 X hK hW m_1139 dX10_reaches_220 ?_
                    refine lv_iload_n hx hb dX10_reaches_223 rfl (lv_at hl 4 rfl) ?_
                    refine zan64 X hK hW (by omega) dX10_reaches_224 ?_
                    refine zcallRV (As := [.int (nI u), .int (zA μ 64 0 f)]) (rest := []) X hml hK hW (ctX10_sharesRigger l D cy ad μ (nI u) (zA μ 64 0 f) hc hp) zmX10_sharesRigger (by decide) m_1366 (zrecv hK (hW 30 0 rfl (by decide)) rfl) ⟨Nat.le_of_ble_eq_true rfl, Nat.le_of_ble_eq_true rfl⟩ ⟨Nat.zero_le _, Nat.zero_le _⟩ rfl hl.1 rfl (Nat.le_of_ble_eq_true rfl) dX10_reaches_225 ?_
                    refine zb_ne (tgt := 246) hx hb dX10_reaches_228 (by decide) (fun b18 => ?_) (fun b18 => ?_)
                    · refine lv_iconst (v := 1) hx hb dX10_reaches_246 (by decide) ?_
                      refine lv_goto (tgt := 251) hx hb dX10_reaches_247 (by decide) ?_
                      exact ze_z hx hb hr hlocks (by simp [bI_t, bI_f, y_reach, b1, Ne.symm b1, b2, Ne.symm b2, b3, Ne.symm b3, b4, Ne.symm b4, b5, b6, Int32.not_lt.mpr b6, b7, Int32.not_le.mp b7, b14, b15, Int32.not_le.mp b15, b18]) dX10_reaches_251
                    · refine lv_aload_n hx hb dX10_reaches_231 rfl (lv_at hl 3 rfl) ?_
                      refine zg8_35 X hK hW m_1141 dX10_reaches_232 ?_
                      refine lv_iload_n hx hb dX10_reaches_235 rfl (lv_at hl 4 rfl) ?_
                      refine zan66 X hK hW (by omega) dX10_reaches_236 ?_
                      refine lv_iconst (v := 3) hx hb dX10_reaches_237 (by decide) ?_
                      refine lv_icmp_le (tgt := 250) hx hb dX10_reaches_238 (by decide) (fun b19 => ?_) (fun b19 => ?_)
                      · refine lv_iconst (v := 0) hx hb dX10_reaches_250 (by decide) ?_
                        exact ze_z hx hb hr hlocks (by simp [bI_t, bI_f, y_reach, b1, Ne.symm b1, b2, Ne.symm b2, b3, Ne.symm b3, b4, Ne.symm b4, b5, b6, Int32.not_lt.mpr b6, b7, Int32.not_le.mp b7, b14, b15, Int32.not_le.mp b15, b18, b19, Int32.not_lt.mpr b19]) dX10_reaches_251
                      · refine lv_iload hx hb dX10_reaches_241 (lv_at hl 0 rfl) ?_
                        refine lv_if_eq (tgt := 250) hx hb dX10_reaches_243 (by decide) (fun _ => ?_) (fun h => absurd h (by decide))
                        refine lv_iconst (v := 0) hx hb dX10_reaches_250 (by decide) ?_
                        exact ze_z hx hb hr hlocks (by simp [bI_t, bI_f, y_reach, b1, Ne.symm b1, b2, Ne.symm b2, b3, Ne.symm b3, b4, Ne.symm b4, b5, b6, Int32.not_lt.mpr b6, b7, Int32.not_le.mp b7, b14, b15, Int32.not_le.mp b15, b18, b19, Int32.not_le.mp b19]) dX10_reaches_251
            · refine lv_iload hx hb dX10_reaches_178 (lv_at hl 1 rfl) ?_
              refine lv_if_ne (tgt := 246) hx hb dX10_reaches_180 (by decide) (fun h => absurd h (by decide)) (fun _ => ?_)
              refine lv_aload_n hx hb dX10_reaches_183 rfl (lv_at hl 3 rfl) ?_
              refine zg8_35 X hK hW m_1141 dX10_reaches_184 ?_
              refine lv_iload_n hx hb dX10_reaches_187 rfl (lv_at hl 4 rfl) ?_
              refine zan66 X hK hW (by omega) dX10_reaches_188 ?_
              refine lv_iconst (v := 1) hx hb dX10_reaches_189 (by decide) ?_
              refine lv_icmp_le (tgt := 207) hx hb dX10_reaches_190 (by decide) (fun b22 => ?_) (fun b22 => ?_)
              · refine lv_aload_n hx hb dX10_reaches_207 rfl (lv_at hl 3 rfl) ?_
                refine zg8_35 X hK hW m_1141 dX10_reaches_208 ?_
                refine lv_iload_n hx hb dX10_reaches_211 rfl (lv_at hl 4 rfl) ?_
                refine zan66 X hK hW (by omega) dX10_reaches_212 ?_
                refine lv_iconst (v := 2) hx hb dX10_reaches_213 (by decide) ?_
                refine lv_icmp_le (tgt := 231) hx hb dX10_reaches_214 (by decide) (fun b23 => ?_) (fun b23 => ?_)
                · refine lv_aload_n hx hb dX10_reaches_231 rfl (lv_at hl 3 rfl) ?_
                  refine zg8_35 X hK hW m_1141 dX10_reaches_232 ?_
                  refine lv_iload_n hx hb dX10_reaches_235 rfl (lv_at hl 4 rfl) ?_
                  refine zan66 X hK hW (by omega) dX10_reaches_236 ?_
                  refine lv_iconst (v := 3) hx hb dX10_reaches_237 (by decide) ?_
                  refine lv_icmp_le (tgt := 250) hx hb dX10_reaches_238 (by decide) (fun b24 => ?_) (fun b24 => ?_)
                  · refine lv_iconst (v := 0) hx hb dX10_reaches_250 (by decide) ?_
                    exact ze_z hx hb hr hlocks (by simp [bI_t, bI_f, y_reach, b1, Ne.symm b1, b2, Ne.symm b2, b3, Ne.symm b3, b4, Ne.symm b4, b5, b6, Int32.not_le.mp b6, b22, Int32.not_lt.mpr b22, b23, Int32.not_lt.mpr b23, b24, Int32.not_lt.mpr b24]) dX10_reaches_251
                  · refine lv_iload hx hb dX10_reaches_241 (lv_at hl 0 rfl) ?_
                    refine lv_if_eq (tgt := 250) hx hb dX10_reaches_243 (by decide) (fun _ => ?_) (fun h => absurd h (by decide))
                    refine lv_iconst (v := 0) hx hb dX10_reaches_250 (by decide) ?_
                    exact ze_z hx hb hr hlocks (by simp [bI_t, bI_f, y_reach, b1, Ne.symm b1, b2, Ne.symm b2, b3, Ne.symm b3, b4, Ne.symm b4, b5, b6, Int32.not_le.mp b6, b22, Int32.not_lt.mpr b22, b23, Int32.not_lt.mpr b23, b24, Int32.not_le.mp b24]) dX10_reaches_251
                · refine lv_aload_n hx hb dX10_reaches_217 rfl (lv_at hl 3 rfl) ?_
                  refine lv_iload_n hx hb dX10_reaches_218 rfl (lv_at hl 5 rfl) ?_
                  refine lv_aload_n hx hb dX10_reaches_219 rfl (lv_at hl 3 rfl) ?_
                  refine zg8_33 X hK hW m_1139 dX10_reaches_220 ?_
                  refine lv_iload_n hx hb dX10_reaches_223 rfl (lv_at hl 4 rfl) ?_
                  refine zan64 X hK hW (by omega) dX10_reaches_224 ?_
                  refine zcallRV (As := [.int (nI u), .int (zA μ 64 0 f)]) (rest := []) X hml hK hW (ctX10_sharesRigger l D cy ad μ (nI u) (zA μ 64 0 f) hc hp) zmX10_sharesRigger (by decide) m_1366 (zrecv hK (hW 30 0 rfl (by decide)) rfl) ⟨Nat.le_of_ble_eq_true rfl, Nat.le_of_ble_eq_true rfl⟩ ⟨Nat.zero_le _, Nat.zero_le _⟩ rfl hl.1 rfl (Nat.le_of_ble_eq_true rfl) dX10_reaches_225 ?_
                  refine zb_ne (tgt := 246) hx hb dX10_reaches_228 (by decide) (fun b26 => ?_) (fun b26 => ?_)
                  · refine lv_iconst (v := 1) hx hb dX10_reaches_246 (by decide) ?_
                    refine lv_goto (tgt := 251) hx hb dX10_reaches_247 (by decide) ?_
                    exact ze_z hx hb hr hlocks (by simp [bI_t, bI_f, y_reach, b1, Ne.symm b1, b2, Ne.symm b2, b3, Ne.symm b3, b4, Ne.symm b4, b5, b6, Int32.not_le.mp b6, b22, Int32.not_lt.mpr b22, b23, Int32.not_le.mp b23, b26]) dX10_reaches_251
                  · refine lv_aload_n hx hb dX10_reaches_231 rfl (lv_at hl 3 rfl) ?_
                    refine zg8_35 X hK hW m_1141 dX10_reaches_232 ?_
                    refine lv_iload_n hx hb dX10_reaches_235 rfl (lv_at hl 4 rfl) ?_
                    refine zan66 X hK hW (by omega) dX10_reaches_236 ?_
                    refine lv_iconst (v := 3) hx hb dX10_reaches_237 (by decide) ?_
                    refine lv_icmp_le (tgt := 250) hx hb dX10_reaches_238 (by decide) (fun b27 => ?_) (fun b27 => ?_)
                    · refine lv_iconst (v := 0) hx hb dX10_reaches_250 (by decide) ?_
                      exact ze_z hx hb hr hlocks (by simp [bI_t, bI_f, y_reach, b1, Ne.symm b1, b2, Ne.symm b2, b3, Ne.symm b3, b4, Ne.symm b4, b5, b6, Int32.not_le.mp b6, b22, Int32.not_lt.mpr b22, b23, Int32.not_le.mp b23, b26, b27, Int32.not_lt.mpr b27]) dX10_reaches_251
                    · refine lv_iload hx hb dX10_reaches_241 (lv_at hl 0 rfl) ?_
                      refine lv_if_eq (tgt := 250) hx hb dX10_reaches_243 (by decide) (fun _ => ?_) (fun h => absurd h (by decide))
                      refine lv_iconst (v := 0) hx hb dX10_reaches_250 (by decide) ?_
                      exact ze_z hx hb hr hlocks (by simp [bI_t, bI_f, y_reach, b1, Ne.symm b1, b2, Ne.symm b2, b3, Ne.symm b3, b4, Ne.symm b4, b5, b6, Int32.not_le.mp b6, b22, Int32.not_lt.mpr b22, b23, Int32.not_le.mp b23, b26, b27, Int32.not_le.mp b27]) dX10_reaches_251
              · refine lv_aload_n hx hb dX10_reaches_193 rfl (lv_at hl 3 rfl) ?_
                refine lv_iload_n hx hb dX10_reaches_194 rfl (lv_at hl 5 rfl) ?_
                refine lv_aload_n hx hb dX10_reaches_195 rfl (lv_at hl 3 rfl) ?_
                refine zg8_33 X hK hW m_1139 dX10_reaches_196 ?_
                refine lv_iload_n hx hb dX10_reaches_199 rfl (lv_at hl 4 rfl) ?_
                refine zan64 X hK hW (by omega) dX10_reaches_200 ?_
                refine zcallRV (As := [.int (nI u), .int (zA μ 64 0 f)]) (rest := []) X hml hK hW (ctX10_sharesHook l D cy ad μ (nI u) (zA μ 64 0 f) hc hp) zmX10_sharesHook (by decide) m_1362 (zrecv hK (hW 30 0 rfl (by decide)) rfl) ⟨Nat.le_of_ble_eq_true rfl, Nat.le_of_ble_eq_true rfl⟩ ⟨Nat.zero_le _, Nat.zero_le _⟩ rfl hl.1 rfl (Nat.le_of_ble_eq_true rfl) dX10_reaches_201 ?_
                refine zb_ne (tgt := 246) hx hb dX10_reaches_204 (by decide) (fun b29 => ?_) (fun b29 => ?_)
                · refine lv_iconst (v := 1) hx hb dX10_reaches_246 (by decide) ?_
                  refine lv_goto (tgt := 251) hx hb dX10_reaches_247 (by decide) ?_
                  exact ze_z hx hb hr hlocks (by simp [bI_t, bI_f, y_reach, b1, Ne.symm b1, b2, Ne.symm b2, b3, Ne.symm b3, b4, Ne.symm b4, b5, b6, Int32.not_le.mp b6, b22, Int32.not_le.mp b22, b29]) dX10_reaches_251
                · refine lv_aload_n hx hb dX10_reaches_207 rfl (lv_at hl 3 rfl) ?_
                  refine zg8_35 X hK hW m_1141 dX10_reaches_208 ?_
                  refine lv_iload_n hx hb dX10_reaches_211 rfl (lv_at hl 4 rfl) ?_
                  refine zan66 X hK hW (by omega) dX10_reaches_212 ?_
                  refine lv_iconst (v := 2) hx hb dX10_reaches_213 (by decide) ?_
                  refine lv_icmp_le (tgt := 231) hx hb dX10_reaches_214 (by decide) (fun b30 => ?_) (fun b30 => ?_)
                  · refine lv_aload_n hx hb dX10_reaches_231 rfl (lv_at hl 3 rfl) ?_
                    refine zg8_35 X hK hW m_1141 dX10_reaches_232 ?_
                    refine lv_iload_n hx hb dX10_reaches_235 rfl (lv_at hl 4 rfl) ?_
                    refine zan66 X hK hW (by omega) dX10_reaches_236 ?_
                    refine lv_iconst (v := 3) hx hb dX10_reaches_237 (by decide) ?_
                    refine lv_icmp_le (tgt := 250) hx hb dX10_reaches_238 (by decide) (fun b31 => ?_) (fun b31 => ?_)
                    · refine lv_iconst (v := 0) hx hb dX10_reaches_250 (by decide) ?_
                      exact ze_z hx hb hr hlocks (by simp [bI_t, bI_f, y_reach, b1, Ne.symm b1, b2, Ne.symm b2, b3, Ne.symm b3, b4, Ne.symm b4, b5, b6, Int32.not_le.mp b6, b22, Int32.not_le.mp b22, b29, b30, Int32.not_lt.mpr b30, b31, Int32.not_lt.mpr b31]) dX10_reaches_251
                    · refine lv_iload hx hb dX10_reaches_241 (lv_at hl 0 rfl) ?_
                      refine lv_if_eq (tgt := 250) hx hb dX10_reaches_243 (by decide) (fun _ => ?_) (fun h => absurd h (by decide))
                      refine lv_iconst (v := 0) hx hb dX10_reaches_250 (by decide) ?_
                      exact ze_z hx hb hr hlocks (by simp [bI_t, bI_f, y_reach, b1, Ne.symm b1, b2, Ne.symm b2, b3, Ne.symm b3, b4, Ne.symm b4, b5, b6, Int32.not_le.mp b6, b22, Int32.not_le.mp b22, b29, b30, Int32.not_lt.mpr b30, b31, Int32.not_le.mp b31]) dX10_reaches_251
                  · refine lv_aload_n hx hb dX10_reaches_217 rfl (lv_at hl 3 rfl) ?_
                    refine lv_iload_n hx hb dX10_reaches_218 rfl (lv_at hl 5 rfl) ?_
                    refine lv_aload_n hx hb dX10_reaches_219 rfl (lv_at hl 3 rfl) ?_
                    refine zg8_33 X hK hW m_1139 dX10_reaches_220 ?_
                    refine lv_iload_n hx hb dX10_reaches_223 rfl (lv_at hl 4 rfl) ?_
                    refine zan64 X hK hW (by omega) dX10_reaches_224 ?_
                    refine zcallRV (As := [.int (nI u), .int (zA μ 64 0 f)]) (rest := []) X hml hK hW (ctX10_sharesRigger l D cy ad μ (nI u) (zA μ 64 0 f) hc hp) zmX10_sharesRigger (by decide) m_1366 (zrecv hK (hW 30 0 rfl (by decide)) rfl) ⟨Nat.le_of_ble_eq_true rfl, Nat.le_of_ble_eq_true rfl⟩ ⟨Nat.zero_le _, Nat.zero_le _⟩ rfl hl.1 rfl (Nat.le_of_ble_eq_true rfl) dX10_reaches_225 ?_
                    refine zb_ne (tgt := 246) hx hb dX10_reaches_228 (by decide) (fun b33 => ?_) (fun b33 => ?_)
                    · refine lv_iconst (v := 1) hx hb dX10_reaches_246 (by decide) ?_
                      refine lv_goto (tgt := 251) hx hb dX10_reaches_247 (by decide) ?_
                      exact ze_z hx hb hr hlocks (by simp [bI_t, bI_f, y_reach, b1, Ne.symm b1, b2, Ne.symm b2, b3, Ne.symm b3, b4, Ne.symm b4, b5, b6, Int32.not_le.mp b6, b22, Int32.not_le.mp b22, b29, b30, Int32.not_le.mp b30, b33]) dX10_reaches_251
                    · refine lv_aload_n hx hb dX10_reaches_231 rfl (lv_at hl 3 rfl) ?_
                      refine zg8_35 X hK hW m_1141 dX10_reaches_232 ?_
                      refine lv_iload_n hx hb dX10_reaches_235 rfl (lv_at hl 4 rfl) ?_
                      refine zan66 X hK hW (by omega) dX10_reaches_236 ?_
                      refine lv_iconst (v := 3) hx hb dX10_reaches_237 (by decide) ?_
                      refine lv_icmp_le (tgt := 250) hx hb dX10_reaches_238 (by decide) (fun b34 => ?_) (fun b34 => ?_)
                      · refine lv_iconst (v := 0) hx hb dX10_reaches_250 (by decide) ?_
                        exact ze_z hx hb hr hlocks (by simp [bI_t, bI_f, y_reach, b1, Ne.symm b1, b2, Ne.symm b2, b3, Ne.symm b3, b4, Ne.symm b4, b5, b6, Int32.not_le.mp b6, b22, Int32.not_le.mp b22, b29, b30, Int32.not_le.mp b30, b33, b34, Int32.not_lt.mpr b34]) dX10_reaches_251
                      · refine lv_iload hx hb dX10_reaches_241 (lv_at hl 0 rfl) ?_
                        refine lv_if_eq (tgt := 250) hx hb dX10_reaches_243 (by decide) (fun _ => ?_) (fun h => absurd h (by decide))
                        refine lv_iconst (v := 0) hx hb dX10_reaches_250 (by decide) ?_
                        exact ze_z hx hb hr hlocks (by simp [bI_t, bI_f, y_reach, b1, Ne.symm b1, b2, Ne.symm b2, b3, Ne.symm b3, b4, Ne.symm b4, b5, b6, Int32.not_le.mp b6, b22, Int32.not_le.mp b22, b29, b30, Int32.not_le.mp b30, b33, b34, Int32.not_le.mp b34]) dX10_reaches_251
          · refine lv_aload_n hx hb dX10_reaches_81 rfl (lv_at hl 3 rfl) ?_
            refine zg8_36 X hK hW m_1142 dX10_reaches_82 ?_
            refine lv_iload_n hx hb dX10_reaches_85 rfl (lv_at hl 4 rfl) ?_
            refine zan67 X hK hW (by omega) dX10_reaches_86 ?_
            refine lv_bipush (v := 108) hx hb dX10_reaches_87 (by decide) ?_
            refine lv_icmp_ne (tgt := 97) hx hb dX10_reaches_89 (by decide) (fun b36 => ?_) (fun b36 => ?_)
            · refine lv_aload_n hx hb dX10_reaches_97 rfl (lv_at hl 3 rfl) ?_
              refine zg8_36 X hK hW m_1142 dX10_reaches_98 ?_
              refine lv_iload_n hx hb dX10_reaches_101 rfl (lv_at hl 4 rfl) ?_
              refine zan67 X hK hW (by omega) dX10_reaches_102 ?_
              refine lv_bipush (v := 104) hx hb dX10_reaches_103 (by decide) ?_
              refine lv_icmp_ne (tgt := 122) hx hb dX10_reaches_105 (by decide) (fun b37 => ?_) (fun b37 => ?_)
              · refine lv_aload_n hx hb dX10_reaches_122 rfl (lv_at hl 3 rfl) ?_
                refine zg8_36 X hK hW m_1142 dX10_reaches_123 ?_
                refine lv_iload_n hx hb dX10_reaches_126 rfl (lv_at hl 4 rfl) ?_
                refine zan67 X hK hW (by omega) dX10_reaches_127 ?_
                refine lv_bipush (v := 114) hx hb dX10_reaches_128 (by decide) ?_
                refine lv_icmp_ne (tgt := 147) hx hb dX10_reaches_130 (by decide) (fun b38 => ?_) (fun b38 => ?_)
                · refine lv_aload_n hx hb dX10_reaches_147 rfl (lv_at hl 3 rfl) ?_
                  refine zg8_36 X hK hW m_1142 dX10_reaches_148 ?_
                  refine lv_iload_n hx hb dX10_reaches_151 rfl (lv_at hl 4 rfl) ?_
                  refine zan67 X hK hW (by omega) dX10_reaches_152 ?_
                  refine lv_bipush (v := 99) hx hb dX10_reaches_153 (by decide) ?_
                  refine lv_icmp_ne (tgt := 167) hx hb dX10_reaches_155 (by decide) (fun b39 => ?_) (fun b39 => ?_)
                  · refine lv_iconst (v := 0) hx hb dX10_reaches_167 (by decide) ?_
                    exact ze_z hx hb hr hlocks (by simp [bI_t, bI_f, y_reach, b1, Ne.symm b1, b2, Ne.symm b2, b3, Ne.symm b3, b4, Ne.symm b4, b5, Ne.symm b5, b36, Ne.symm b36, b37, Ne.symm b37, b38, Ne.symm b38, b39, Ne.symm b39]) dX10_reaches_168
                  · refine lv_iload hx hb dX10_reaches_158 (lv_at hl 0 rfl) ?_
                    refine lv_if_eq (tgt := 167) hx hb dX10_reaches_160 (by decide) (fun _ => ?_) (fun h => absurd h (by decide))
                    refine lv_iconst (v := 0) hx hb dX10_reaches_167 (by decide) ?_
                    exact ze_z hx hb hr hlocks (by simp [bI_t, bI_f, y_reach, b1, Ne.symm b1, b2, Ne.symm b2, b3, Ne.symm b3, b4, Ne.symm b4, b5, Ne.symm b5, b36, Ne.symm b36, b37, Ne.symm b37, b38, Ne.symm b38, b39]) dX10_reaches_168
                · refine lv_aload_n hx hb dX10_reaches_133 rfl (lv_at hl 3 rfl) ?_
                  refine lv_iload_n hx hb dX10_reaches_134 rfl (lv_at hl 5 rfl) ?_
                  refine lv_aload_n hx hb dX10_reaches_135 rfl (lv_at hl 3 rfl) ?_
                  refine zg8_33 X hK hW m_1139 dX10_reaches_136 ?_
                  refine lv_iload_n hx hb dX10_reaches_139 rfl (lv_at hl 4 rfl) ?_
                  refine zan64 X hK hW (by omega) dX10_reaches_140 ?_
                  refine zcallRV (As := [.int (nI u), .int (zA μ 64 0 f)]) (rest := []) X hml hK hW (ctX10_sharesRigger l D cy ad μ (nI u) (zA μ 64 0 f) hc hp) zmX10_sharesRigger (by decide) m_1366 (zrecv hK (hW 30 0 rfl (by decide)) rfl) ⟨Nat.le_of_ble_eq_true rfl, Nat.le_of_ble_eq_true rfl⟩ ⟨Nat.zero_le _, Nat.zero_le _⟩ rfl hl.1 rfl (Nat.le_of_ble_eq_true rfl) dX10_reaches_141 ?_
                  refine zb_ne (tgt := 163) hx hb dX10_reaches_144 (by decide) (fun b41 => ?_) (fun b41 => ?_)
                  · refine lv_iconst (v := 1) hx hb dX10_reaches_163 (by decide) ?_
                    refine lv_goto (tgt := 168) hx hb dX10_reaches_164 (by decide) ?_
                    exact ze_z hx hb hr hlocks (by simp [bI_t, bI_f, y_reach, b1, Ne.symm b1, b2, Ne.symm b2, b3, Ne.symm b3, b4, Ne.symm b4, b5, Ne.symm b5, b36, Ne.symm b36, b37, Ne.symm b37, b38, b41]) dX10_reaches_168
                  · refine lv_aload_n hx hb dX10_reaches_147 rfl (lv_at hl 3 rfl) ?_
                    refine zg8_36 X hK hW m_1142 dX10_reaches_148 ?_
                    refine lv_iload_n hx hb dX10_reaches_151 rfl (lv_at hl 4 rfl) ?_
                    refine zan67 X hK hW (by omega) dX10_reaches_152 ?_
                    refine lv_bipush (v := 99) hx hb dX10_reaches_153 (by decide) ?_
                    refine lv_icmp_ne (tgt := 167) hx hb dX10_reaches_155 (by decide) (fun b42 => ?_) (fun b42 => ?_)
                    · refine lv_iconst (v := 0) hx hb dX10_reaches_167 (by decide) ?_
                      exact ze_z hx hb hr hlocks (by simp [bI_t, bI_f, y_reach, b1, Ne.symm b1, b2, Ne.symm b2, b3, Ne.symm b3, b4, Ne.symm b4, b5, Ne.symm b5, b36, Ne.symm b36, b37, Ne.symm b37, b38, b41, b42, Ne.symm b42]) dX10_reaches_168
                    · refine lv_iload hx hb dX10_reaches_158 (lv_at hl 0 rfl) ?_
                      refine lv_if_eq (tgt := 167) hx hb dX10_reaches_160 (by decide) (fun _ => ?_) (fun h => absurd h (by decide))
                      refine lv_iconst (v := 0) hx hb dX10_reaches_167 (by decide) ?_
                      exact ze_z hx hb hr hlocks (absurd (b38.symm.trans b42) (by decide)) dX10_reaches_168
              · refine lv_aload_n hx hb dX10_reaches_108 rfl (lv_at hl 3 rfl) ?_
                refine lv_iload_n hx hb dX10_reaches_109 rfl (lv_at hl 5 rfl) ?_
                refine lv_aload_n hx hb dX10_reaches_110 rfl (lv_at hl 3 rfl) ?_
                refine zg8_33 X hK hW m_1139 dX10_reaches_111 ?_
                refine lv_iload_n hx hb dX10_reaches_114 rfl (lv_at hl 4 rfl) ?_
                refine zan64 X hK hW (by omega) dX10_reaches_115 ?_
                refine zcallRV (As := [.int (nI u), .int (zA μ 64 0 f)]) (rest := []) X hml hK hW (ctX10_sharesHook l D cy ad μ (nI u) (zA μ 64 0 f) hc hp) zmX10_sharesHook (by decide) m_1362 (zrecv hK (hW 30 0 rfl (by decide)) rfl) ⟨Nat.le_of_ble_eq_true rfl, Nat.le_of_ble_eq_true rfl⟩ ⟨Nat.zero_le _, Nat.zero_le _⟩ rfl hl.1 rfl (Nat.le_of_ble_eq_true rfl) dX10_reaches_116 ?_
                refine zb_ne (tgt := 163) hx hb dX10_reaches_119 (by decide) (fun b44 => ?_) (fun b44 => ?_)
                · refine lv_iconst (v := 1) hx hb dX10_reaches_163 (by decide) ?_
                  refine lv_goto (tgt := 168) hx hb dX10_reaches_164 (by decide) ?_
                  exact ze_z hx hb hr hlocks (by simp [bI_t, bI_f, y_reach, b1, Ne.symm b1, b2, Ne.symm b2, b3, Ne.symm b3, b4, Ne.symm b4, b5, Ne.symm b5, b36, Ne.symm b36, b37, b44]) dX10_reaches_168
                · refine lv_aload_n hx hb dX10_reaches_122 rfl (lv_at hl 3 rfl) ?_
                  refine zg8_36 X hK hW m_1142 dX10_reaches_123 ?_
                  refine lv_iload_n hx hb dX10_reaches_126 rfl (lv_at hl 4 rfl) ?_
                  refine zan67 X hK hW (by omega) dX10_reaches_127 ?_
                  refine lv_bipush (v := 114) hx hb dX10_reaches_128 (by decide) ?_
                  refine lv_icmp_ne (tgt := 147) hx hb dX10_reaches_130 (by decide) (fun b45 => ?_) (fun b45 => ?_)
                  · refine lv_aload_n hx hb dX10_reaches_147 rfl (lv_at hl 3 rfl) ?_
                    refine zg8_36 X hK hW m_1142 dX10_reaches_148 ?_
                    refine lv_iload_n hx hb dX10_reaches_151 rfl (lv_at hl 4 rfl) ?_
                    refine zan67 X hK hW (by omega) dX10_reaches_152 ?_
                    refine lv_bipush (v := 99) hx hb dX10_reaches_153 (by decide) ?_
                    refine lv_icmp_ne (tgt := 167) hx hb dX10_reaches_155 (by decide) (fun b46 => ?_) (fun b46 => ?_)
                    · refine lv_iconst (v := 0) hx hb dX10_reaches_167 (by decide) ?_
                      exact ze_z hx hb hr hlocks (by simp [bI_t, bI_f, y_reach, b1, Ne.symm b1, b2, Ne.symm b2, b3, Ne.symm b3, b4, Ne.symm b4, b5, Ne.symm b5, b36, Ne.symm b36, b37, b44, b45, Ne.symm b45, b46, Ne.symm b46]) dX10_reaches_168
                    · refine lv_iload hx hb dX10_reaches_158 (lv_at hl 0 rfl) ?_
                      refine lv_if_eq (tgt := 167) hx hb dX10_reaches_160 (by decide) (fun _ => ?_) (fun h => absurd h (by decide))
                      refine lv_iconst (v := 0) hx hb dX10_reaches_167 (by decide) ?_
                      exact ze_z hx hb hr hlocks (absurd (b37.symm.trans b46) (by decide)) dX10_reaches_168
                  · refine lv_aload_n hx hb dX10_reaches_133 rfl (lv_at hl 3 rfl) ?_
                    refine lv_iload_n hx hb dX10_reaches_134 rfl (lv_at hl 5 rfl) ?_
                    refine lv_aload_n hx hb dX10_reaches_135 rfl (lv_at hl 3 rfl) ?_
                    refine zg8_33 X hK hW m_1139 dX10_reaches_136 ?_
                    refine lv_iload_n hx hb dX10_reaches_139 rfl (lv_at hl 4 rfl) ?_
                    refine zan64 X hK hW (by omega) dX10_reaches_140 ?_
                    refine zcallRV (As := [.int (nI u), .int (zA μ 64 0 f)]) (rest := []) X hml hK hW (ctX10_sharesRigger l D cy ad μ (nI u) (zA μ 64 0 f) hc hp) zmX10_sharesRigger (by decide) m_1366 (zrecv hK (hW 30 0 rfl (by decide)) rfl) ⟨Nat.le_of_ble_eq_true rfl, Nat.le_of_ble_eq_true rfl⟩ ⟨Nat.zero_le _, Nat.zero_le _⟩ rfl hl.1 rfl (Nat.le_of_ble_eq_true rfl) dX10_reaches_141 ?_
                    refine zb_ne (tgt := 163) hx hb dX10_reaches_144 (by decide) (fun b48 => ?_) (fun b48 => ?_)
                    · refine lv_iconst (v := 1) hx hb dX10_reaches_163 (by decide) ?_
                      refine lv_goto (tgt := 168) hx hb dX10_reaches_164 (by decide) ?_
                      exact ze_z hx hb hr hlocks (absurd (b37.symm.trans b45) (by decide)) dX10_reaches_168
                    · refine lv_aload_n hx hb dX10_reaches_147 rfl (lv_at hl 3 rfl) ?_
                      refine zg8_36 X hK hW m_1142 dX10_reaches_148 ?_
                      refine lv_iload_n hx hb dX10_reaches_151 rfl (lv_at hl 4 rfl) ?_
                      refine zan67 X hK hW (by omega) dX10_reaches_152 ?_
                      refine lv_bipush (v := 99) hx hb dX10_reaches_153 (by decide) ?_
                      refine lv_icmp_ne (tgt := 167) hx hb dX10_reaches_155 (by decide) (fun b49 => ?_) (fun b49 => ?_)
                      · refine lv_iconst (v := 0) hx hb dX10_reaches_167 (by decide) ?_
                        exact ze_z hx hb hr hlocks (absurd (b37.symm.trans b45) (by decide)) dX10_reaches_168
                      · refine lv_iload hx hb dX10_reaches_158 (lv_at hl 0 rfl) ?_
                        refine lv_if_eq (tgt := 167) hx hb dX10_reaches_160 (by decide) (fun _ => ?_) (fun h => absurd h (by decide))
                        refine lv_iconst (v := 0) hx hb dX10_reaches_167 (by decide) ?_
                        exact ze_z hx hb hr hlocks (absurd (b37.symm.trans b45) (by decide)) dX10_reaches_168
            · refine lv_iload hx hb dX10_reaches_92 (lv_at hl 1 rfl) ?_
              refine lv_if_ne (tgt := 163) hx hb dX10_reaches_94 (by decide) (fun h => absurd h (by decide)) (fun _ => ?_)
              refine lv_aload_n hx hb dX10_reaches_97 rfl (lv_at hl 3 rfl) ?_
              refine zg8_36 X hK hW m_1142 dX10_reaches_98 ?_
              refine lv_iload_n hx hb dX10_reaches_101 rfl (lv_at hl 4 rfl) ?_
              refine zan67 X hK hW (by omega) dX10_reaches_102 ?_
              refine lv_bipush (v := 104) hx hb dX10_reaches_103 (by decide) ?_
              refine lv_icmp_ne (tgt := 122) hx hb dX10_reaches_105 (by decide) (fun b52 => ?_) (fun b52 => ?_)
              · refine lv_aload_n hx hb dX10_reaches_122 rfl (lv_at hl 3 rfl) ?_
                refine zg8_36 X hK hW m_1142 dX10_reaches_123 ?_
                refine lv_iload_n hx hb dX10_reaches_126 rfl (lv_at hl 4 rfl) ?_
                refine zan67 X hK hW (by omega) dX10_reaches_127 ?_
                refine lv_bipush (v := 114) hx hb dX10_reaches_128 (by decide) ?_
                refine lv_icmp_ne (tgt := 147) hx hb dX10_reaches_130 (by decide) (fun b53 => ?_) (fun b53 => ?_)
                · refine lv_aload_n hx hb dX10_reaches_147 rfl (lv_at hl 3 rfl) ?_
                  refine zg8_36 X hK hW m_1142 dX10_reaches_148 ?_
                  refine lv_iload_n hx hb dX10_reaches_151 rfl (lv_at hl 4 rfl) ?_
                  refine zan67 X hK hW (by omega) dX10_reaches_152 ?_
                  refine lv_bipush (v := 99) hx hb dX10_reaches_153 (by decide) ?_
                  refine lv_icmp_ne (tgt := 167) hx hb dX10_reaches_155 (by decide) (fun b54 => ?_) (fun b54 => ?_)
                  · refine lv_iconst (v := 0) hx hb dX10_reaches_167 (by decide) ?_
                    exact ze_z hx hb hr hlocks (by simp [bI_t, bI_f, y_reach, b1, Ne.symm b1, b2, Ne.symm b2, b3, Ne.symm b3, b4, Ne.symm b4, b5, Ne.symm b5, b36, b52, Ne.symm b52, b53, Ne.symm b53, b54, Ne.symm b54]) dX10_reaches_168
                  · refine lv_iload hx hb dX10_reaches_158 (lv_at hl 0 rfl) ?_
                    refine lv_if_eq (tgt := 167) hx hb dX10_reaches_160 (by decide) (fun _ => ?_) (fun h => absurd h (by decide))
                    refine lv_iconst (v := 0) hx hb dX10_reaches_167 (by decide) ?_
                    exact ze_z hx hb hr hlocks (absurd (b36.symm.trans b54) (by decide)) dX10_reaches_168
                · refine lv_aload_n hx hb dX10_reaches_133 rfl (lv_at hl 3 rfl) ?_
                  refine lv_iload_n hx hb dX10_reaches_134 rfl (lv_at hl 5 rfl) ?_
                  refine lv_aload_n hx hb dX10_reaches_135 rfl (lv_at hl 3 rfl) ?_
                  refine zg8_33 X hK hW m_1139 dX10_reaches_136 ?_
                  refine lv_iload_n hx hb dX10_reaches_139 rfl (lv_at hl 4 rfl) ?_
                  refine zan64 X hK hW (by omega) dX10_reaches_140 ?_
                  refine zcallRV (As := [.int (nI u), .int (zA μ 64 0 f)]) (rest := []) X hml hK hW (ctX10_sharesRigger l D cy ad μ (nI u) (zA μ 64 0 f) hc hp) zmX10_sharesRigger (by decide) m_1366 (zrecv hK (hW 30 0 rfl (by decide)) rfl) ⟨Nat.le_of_ble_eq_true rfl, Nat.le_of_ble_eq_true rfl⟩ ⟨Nat.zero_le _, Nat.zero_le _⟩ rfl hl.1 rfl (Nat.le_of_ble_eq_true rfl) dX10_reaches_141 ?_
                  refine zb_ne (tgt := 163) hx hb dX10_reaches_144 (by decide) (fun b56 => ?_) (fun b56 => ?_)
                  · refine lv_iconst (v := 1) hx hb dX10_reaches_163 (by decide) ?_
                    refine lv_goto (tgt := 168) hx hb dX10_reaches_164 (by decide) ?_
                    exact ze_z hx hb hr hlocks (absurd (b36.symm.trans b53) (by decide)) dX10_reaches_168
                  · refine lv_aload_n hx hb dX10_reaches_147 rfl (lv_at hl 3 rfl) ?_
                    refine zg8_36 X hK hW m_1142 dX10_reaches_148 ?_
                    refine lv_iload_n hx hb dX10_reaches_151 rfl (lv_at hl 4 rfl) ?_
                    refine zan67 X hK hW (by omega) dX10_reaches_152 ?_
                    refine lv_bipush (v := 99) hx hb dX10_reaches_153 (by decide) ?_
                    refine lv_icmp_ne (tgt := 167) hx hb dX10_reaches_155 (by decide) (fun b57 => ?_) (fun b57 => ?_)
                    · refine lv_iconst (v := 0) hx hb dX10_reaches_167 (by decide) ?_
                      exact ze_z hx hb hr hlocks (absurd (b36.symm.trans b53) (by decide)) dX10_reaches_168
                    · refine lv_iload hx hb dX10_reaches_158 (lv_at hl 0 rfl) ?_
                      refine lv_if_eq (tgt := 167) hx hb dX10_reaches_160 (by decide) (fun _ => ?_) (fun h => absurd h (by decide))
                      refine lv_iconst (v := 0) hx hb dX10_reaches_167 (by decide) ?_
                      exact ze_z hx hb hr hlocks (absurd (b36.symm.trans b53) (by decide)) dX10_reaches_168
              · refine lv_aload_n hx hb dX10_reaches_108 rfl (lv_at hl 3 rfl) ?_
                refine lv_iload_n hx hb dX10_reaches_109 rfl (lv_at hl 5 rfl) ?_
                refine lv_aload_n hx hb dX10_reaches_110 rfl (lv_at hl 3 rfl) ?_
                refine zg8_33 X hK hW m_1139 dX10_reaches_111 ?_
                refine lv_iload_n hx hb dX10_reaches_114 rfl (lv_at hl 4 rfl) ?_
                refine zan64 X hK hW (by omega) dX10_reaches_115 ?_
                refine zcallRV (As := [.int (nI u), .int (zA μ 64 0 f)]) (rest := []) X hml hK hW (ctX10_sharesHook l D cy ad μ (nI u) (zA μ 64 0 f) hc hp) zmX10_sharesHook (by decide) m_1362 (zrecv hK (hW 30 0 rfl (by decide)) rfl) ⟨Nat.le_of_ble_eq_true rfl, Nat.le_of_ble_eq_true rfl⟩ ⟨Nat.zero_le _, Nat.zero_le _⟩ rfl hl.1 rfl (Nat.le_of_ble_eq_true rfl) dX10_reaches_116 ?_
                refine zb_ne (tgt := 163) hx hb dX10_reaches_119 (by decide) (fun b59 => ?_) (fun b59 => ?_)
                · refine lv_iconst (v := 1) hx hb dX10_reaches_163 (by decide) ?_
                  refine lv_goto (tgt := 168) hx hb dX10_reaches_164 (by decide) ?_
                  exact ze_z hx hb hr hlocks (absurd (b36.symm.trans b52) (by decide)) dX10_reaches_168
                · refine lv_aload_n hx hb dX10_reaches_122 rfl (lv_at hl 3 rfl) ?_
                  refine zg8_36 X hK hW m_1142 dX10_reaches_123 ?_
                  refine lv_iload_n hx hb dX10_reaches_126 rfl (lv_at hl 4 rfl) ?_
                  refine zan67 X hK hW (by omega) dX10_reaches_127 ?_
                  refine lv_bipush (v := 114) hx hb dX10_reaches_128 (by decide) ?_
                  refine lv_icmp_ne (tgt := 147) hx hb dX10_reaches_130 (by decide) (fun b60 => ?_) (fun b60 => ?_)
                  · refine lv_aload_n hx hb dX10_reaches_147 rfl (lv_at hl 3 rfl) ?_
                    refine zg8_36 X hK hW m_1142 dX10_reaches_148 ?_
                    refine lv_iload_n hx hb dX10_reaches_151 rfl (lv_at hl 4 rfl) ?_
                    refine zan67 X hK hW (by omega) dX10_reaches_152 ?_
                    refine lv_bipush (v := 99) hx hb dX10_reaches_153 (by decide) ?_
                    refine lv_icmp_ne (tgt := 167) hx hb dX10_reaches_155 (by decide) (fun b61 => ?_) (fun b61 => ?_)
                    · refine lv_iconst (v := 0) hx hb dX10_reaches_167 (by decide) ?_
                      exact ze_z hx hb hr hlocks (absurd (b36.symm.trans b52) (by decide)) dX10_reaches_168
                    · refine lv_iload hx hb dX10_reaches_158 (lv_at hl 0 rfl) ?_
                      refine lv_if_eq (tgt := 167) hx hb dX10_reaches_160 (by decide) (fun _ => ?_) (fun h => absurd h (by decide))
                      refine lv_iconst (v := 0) hx hb dX10_reaches_167 (by decide) ?_
                      exact ze_z hx hb hr hlocks (absurd (b36.symm.trans b52) (by decide)) dX10_reaches_168
                  · refine lv_aload_n hx hb dX10_reaches_133 rfl (lv_at hl 3 rfl) ?_
                    refine lv_iload_n hx hb dX10_reaches_134 rfl (lv_at hl 5 rfl) ?_
                    refine lv_aload_n hx hb dX10_reaches_135 rfl (lv_at hl 3 rfl) ?_
                    refine zg8_33 X hK hW m_1139 dX10_reaches_136 ?_
                    refine lv_iload_n hx hb dX10_reaches_139 rfl (lv_at hl 4 rfl) ?_
                    refine zan64 X hK hW (by omega) dX10_reaches_140 ?_
                    refine zcallRV (As := [.int (nI u), .int (zA μ 64 0 f)]) (rest := []) X hml hK hW (ctX10_sharesRigger l D cy ad μ (nI u) (zA μ 64 0 f) hc hp) zmX10_sharesRigger (by decide) m_1366 (zrecv hK (hW 30 0 rfl (by decide)) rfl) ⟨Nat.le_of_ble_eq_true rfl, Nat.le_of_ble_eq_true rfl⟩ ⟨Nat.zero_le _, Nat.zero_le _⟩ rfl hl.1 rfl (Nat.le_of_ble_eq_true rfl) dX10_reaches_141 ?_
                    refine zb_ne (tgt := 163) hx hb dX10_reaches_144 (by decide) (fun b63 => ?_) (fun b63 => ?_)
                    · refine lv_iconst (v := 1) hx hb dX10_reaches_163 (by decide) ?_
                      refine lv_goto (tgt := 168) hx hb dX10_reaches_164 (by decide) ?_
                      exact ze_z hx hb hr hlocks (absurd (b36.symm.trans b52) (by decide)) dX10_reaches_168
                    · refine lv_aload_n hx hb dX10_reaches_147 rfl (lv_at hl 3 rfl) ?_
                      refine zg8_36 X hK hW m_1142 dX10_reaches_148 ?_
                      refine lv_iload_n hx hb dX10_reaches_151 rfl (lv_at hl 4 rfl) ?_
                      refine zan67 X hK hW (by omega) dX10_reaches_152 ?_
                      refine lv_bipush (v := 99) hx hb dX10_reaches_153 (by decide) ?_
                      refine lv_icmp_ne (tgt := 167) hx hb dX10_reaches_155 (by decide) (fun b64 => ?_) (fun b64 => ?_)
                      · refine lv_iconst (v := 0) hx hb dX10_reaches_167 (by decide) ?_
                        exact ze_z hx hb hr hlocks (absurd (b36.symm.trans b52) (by decide)) dX10_reaches_168
                      · refine lv_iload hx hb dX10_reaches_158 (lv_at hl 0 rfl) ?_
                        refine lv_if_eq (tgt := 167) hx hb dX10_reaches_160 (by decide) (fun _ => ?_) (fun h => absurd h (by decide))
                        refine lv_iconst (v := 0) hx hb dX10_reaches_167 (by decide) ?_
                        exact ze_z hx hb hr hlocks (absurd (b36.symm.trans b52) (by decide)) dX10_reaches_168
        · refine lv_iconst (v := 1) hx hb dX10_reaches_63 (by decide) ?_
          refine lv_goto (tgt := 68) hx hb dX10_reaches_64 (by decide) ?_
          refine lv_istore (lv' := [(5, .int 1), (4, .int 0), (3, .int (zA μ 63 0 f)), (0, .ref (ad 30 0)), (1, .int (nI f)), (2, .int (nI u))]) hx hb dX10_reaches_68 hl (by decide) rfl (fun ls hl => ?_)
          refine lv_aload_n hx hb dX10_reaches_70 rfl (lv_at hl 3 rfl) ?_
          refine zg8_36 X hK hW m_1142 dX10_reaches_71 ?_
          refine lv_iload_n hx hb dX10_reaches_74 rfl (lv_at hl 4 rfl) ?_
          refine zan67 X hK hW (by omega) dX10_reaches_75 ?_
          refine lv_bipush (v := 45) hx hb dX10_reaches_76 (by decide) ?_
          refine lv_icmp_eq (tgt := 169) hx hb dX10_reaches_78 (by decide) (fun b66 => ?_) (fun b66 => ?_)
          · refine lv_aload_n hx hb dX10_reaches_169 rfl (lv_at hl 3 rfl) ?_
            refine zg8_35 X hK hW m_1141 dX10_reaches_170 ?_
            refine lv_iload_n hx hb dX10_reaches_173 rfl (lv_at hl 4 rfl) ?_
            refine zan66 X hK hW (by omega) dX10_reaches_174 ?_
            refine lv_if_le (tgt := 183) hx hb dX10_reaches_175 (by decide) (fun b67 => ?_) (fun b67 => ?_)
            · refine lv_aload_n hx hb dX10_reaches_183 rfl (lv_at hl 3 rfl) ?_
              refine zg8_35 X hK hW m_1141 dX10_reaches_184 ?_
              refine lv_iload_n hx hb dX10_reaches_187 rfl (lv_at hl 4 rfl) ?_
              refine zan66 X hK hW (by omega) dX10_reaches_188 ?_
              refine lv_iconst (v := 1) hx hb dX10_reaches_189 (by decide) ?_
              refine lv_icmp_le (tgt := 207) hx hb dX10_reaches_190 (by decide) (fun b68 => ?_) (fun b68 => ?_)
              · refine lv_aload_n hx hb dX10_reaches_207 rfl (lv_at hl 3 rfl) ?_
                refine zg8_35 X hK hW m_1141 dX10_reaches_208 ?_
                refine lv_iload_n hx hb dX10_reaches_211 rfl (lv_at hl 4 rfl) ?_
                refine zan66 X hK hW (by omega) dX10_reaches_212 ?_
                refine lv_iconst (v := 2) hx hb dX10_reaches_213 (by decide) ?_
                refine lv_icmp_le (tgt := 231) hx hb dX10_reaches_214 (by decide) (fun b69 => ?_) (fun b69 => ?_)
                · refine lv_aload_n hx hb dX10_reaches_231 rfl (lv_at hl 3 rfl) ?_
                  refine zg8_35 X hK hW m_1141 dX10_reaches_232 ?_
                  refine lv_iload_n hx hb dX10_reaches_235 rfl (lv_at hl 4 rfl) ?_
                  refine zan66 X hK hW (by omega) dX10_reaches_236 ?_
                  refine lv_iconst (v := 3) hx hb dX10_reaches_237 (by decide) ?_
                  refine lv_icmp_le (tgt := 250) hx hb dX10_reaches_238 (by decide) (fun b70 => ?_) (fun b70 => ?_)
                  · refine lv_iconst (v := 0) hx hb dX10_reaches_250 (by decide) ?_
                    exact ze_z hx hb hr hlocks (by simp [bI_t, bI_f, y_reach, b1, Ne.symm b1, b2, Ne.symm b2, b3, Ne.symm b3, b4, b66, b67, Int32.not_lt.mpr b67, b68, Int32.not_lt.mpr b68, b69, Int32.not_lt.mpr b69, b70, Int32.not_lt.mpr b70]) dX10_reaches_251
                  · refine lv_iload hx hb dX10_reaches_241 (lv_at hl 0 rfl) ?_
                    refine lv_if_eq (tgt := 250) hx hb dX10_reaches_243 (by decide) (fun h => absurd h (by decide)) (fun _ => ?_)
                    refine lv_iconst (v := 1) hx hb dX10_reaches_246 (by decide) ?_
                    refine lv_goto (tgt := 251) hx hb dX10_reaches_247 (by decide) ?_
                    exact ze_z hx hb hr hlocks (by simp [bI_t, bI_f, y_reach, b1, Ne.symm b1, b2, Ne.symm b2, b3, Ne.symm b3, b4, b66, b67, Int32.not_lt.mpr b67, b68, Int32.not_lt.mpr b68, b69, Int32.not_lt.mpr b69, b70, Int32.not_le.mp b70]) dX10_reaches_251
                · refine lv_aload_n hx hb dX10_reaches_217 rfl (lv_at hl 3 rfl) ?_
                  refine lv_iload_n hx hb dX10_reaches_218 rfl (lv_at hl 5 rfl) ?_
                  refine lv_aload_n hx hb dX10_reaches_219 rfl (lv_at hl 3 rfl) ?_
                  refine zg8_33 X hK hW m_1139 dX10_reaches_220 ?_
                  refine lv_iload_n hx hb dX10_reaches_223 rfl (lv_at hl 4 rfl) ?_
                  refine zan64 X hK hW (by omega) dX10_reaches_224 ?_
                  refine zcallRV (As := [.int (nI u), .int (zA μ 64 0 f)]) (rest := []) X hml hK hW (ctX10_sharesRigger l D cy ad μ (nI u) (zA μ 64 0 f) hc hp) zmX10_sharesRigger (by decide) m_1366 (zrecv hK (hW 30 0 rfl (by decide)) rfl) ⟨Nat.le_of_ble_eq_true rfl, Nat.le_of_ble_eq_true rfl⟩ ⟨Nat.zero_le _, Nat.zero_le _⟩ rfl hl.1 rfl (Nat.le_of_ble_eq_true rfl) dX10_reaches_225 ?_
                  refine zb_ne (tgt := 246) hx hb dX10_reaches_228 (by decide) (fun b72 => ?_) (fun b72 => ?_)
                  · refine lv_iconst (v := 1) hx hb dX10_reaches_246 (by decide) ?_
                    refine lv_goto (tgt := 251) hx hb dX10_reaches_247 (by decide) ?_
                    exact ze_z hx hb hr hlocks (by simp [bI_t, bI_f, y_reach, b1, Ne.symm b1, b2, Ne.symm b2, b3, Ne.symm b3, b4, b66, b67, Int32.not_lt.mpr b67, b68, Int32.not_lt.mpr b68, b69, Int32.not_le.mp b69, b72]) dX10_reaches_251
                  · refine lv_aload_n hx hb dX10_reaches_231 rfl (lv_at hl 3 rfl) ?_
                    refine zg8_35 X hK hW m_1141 dX10_reaches_232 ?_
                    refine lv_iload_n hx hb dX10_reaches_235 rfl (lv_at hl 4 rfl) ?_
                    refine zan66 X hK hW (by omega) dX10_reaches_236 ?_
                    refine lv_iconst (v := 3) hx hb dX10_reaches_237 (by decide) ?_
                    refine lv_icmp_le (tgt := 250) hx hb dX10_reaches_238 (by decide) (fun b73 => ?_) (fun b73 => ?_)
                    · refine lv_iconst (v := 0) hx hb dX10_reaches_250 (by decide) ?_
                      exact ze_z hx hb hr hlocks (by simp [bI_t, bI_f, y_reach, b1, Ne.symm b1, b2, Ne.symm b2, b3, Ne.symm b3, b4, b66, b67, Int32.not_lt.mpr b67, b68, Int32.not_lt.mpr b68, b69, Int32.not_le.mp b69, b72, b73, Int32.not_lt.mpr b73]) dX10_reaches_251
                    · refine lv_iload hx hb dX10_reaches_241 (lv_at hl 0 rfl) ?_
                      refine lv_if_eq (tgt := 250) hx hb dX10_reaches_243 (by decide) (fun h => absurd h (by decide)) (fun _ => ?_)
                      refine lv_iconst (v := 1) hx hb dX10_reaches_246 (by decide) ?_
                      refine lv_goto (tgt := 251) hx hb dX10_reaches_247 (by decide) ?_
                      exact ze_z hx hb hr hlocks (by simp [bI_t, bI_f, y_reach, b1, Ne.symm b1, b2, Ne.symm b2, b3, Ne.symm b3, b4, b66, b67, Int32.not_lt.mpr b67, b68, Int32.not_lt.mpr b68, b69, Int32.not_le.mp b69, b72, b73, Int32.not_le.mp b73]) dX10_reaches_251
              · refine lv_aload_n hx hb dX10_reaches_193 rfl (lv_at hl 3 rfl) ?_
                refine lv_iload_n hx hb dX10_reaches_194 rfl (lv_at hl 5 rfl) ?_
                refine lv_aload_n hx hb dX10_reaches_195 rfl (lv_at hl 3 rfl) ?_
                refine zg8_33 X hK hW m_1139 dX10_reaches_196 ?_
                refine lv_iload_n hx hb dX10_reaches_199 rfl (lv_at hl 4 rfl) ?_
                refine zan64 X hK hW (by omega) dX10_reaches_200 ?_
                refine zcallRV (As := [.int (nI u), .int (zA μ 64 0 f)]) (rest := []) X hml hK hW (ctX10_sharesHook l D cy ad μ (nI u) (zA μ 64 0 f) hc hp) zmX10_sharesHook (by decide) m_1362 (zrecv hK (hW 30 0 rfl (by decide)) rfl) ⟨Nat.le_of_ble_eq_true rfl, Nat.le_of_ble_eq_true rfl⟩ ⟨Nat.zero_le _, Nat.zero_le _⟩ rfl hl.1 rfl (Nat.le_of_ble_eq_true rfl) dX10_reaches_201 ?_
                refine zb_ne (tgt := 246) hx hb dX10_reaches_204 (by decide) (fun b75 => ?_) (fun b75 => ?_)
                · refine lv_iconst (v := 1) hx hb dX10_reaches_246 (by decide) ?_
                  refine lv_goto (tgt := 251) hx hb dX10_reaches_247 (by decide) ?_
                  exact ze_z hx hb hr hlocks (by simp [bI_t, bI_f, y_reach, b1, Ne.symm b1, b2, Ne.symm b2, b3, Ne.symm b3, b4, b66, b67, Int32.not_lt.mpr b67, b68, Int32.not_le.mp b68, b75]) dX10_reaches_251
                · refine lv_aload_n hx hb dX10_reaches_207 rfl (lv_at hl 3 rfl) ?_
                  refine zg8_35 X hK hW m_1141 dX10_reaches_208 ?_
                  refine lv_iload_n hx hb dX10_reaches_211 rfl (lv_at hl 4 rfl) ?_
                  refine zan66 X hK hW (by omega) dX10_reaches_212 ?_
                  refine lv_iconst (v := 2) hx hb dX10_reaches_213 (by decide) ?_
                  refine lv_icmp_le (tgt := 231) hx hb dX10_reaches_214 (by decide) (fun b76 => ?_) (fun b76 => ?_)
                  · refine lv_aload_n hx hb dX10_reaches_231 rfl (lv_at hl 3 rfl) ?_
                    refine zg8_35 X hK hW m_1141 dX10_reaches_232 ?_
                    refine lv_iload_n hx hb dX10_reaches_235 rfl (lv_at hl 4 rfl) ?_
                    refine zan66 X hK hW (by omega) dX10_reaches_236 ?_
                    refine lv_iconst (v := 3) hx hb dX10_reaches_237 (by decide) ?_
                    refine lv_icmp_le (tgt := 250) hx hb dX10_reaches_238 (by decide) (fun b77 => ?_) (fun b77 => ?_)
                    · refine lv_iconst (v := 0) hx hb dX10_reaches_250 (by decide) ?_
                      exact ze_z hx hb hr hlocks (by simp [bI_t, bI_f, y_reach, b1, Ne.symm b1, b2, Ne.symm b2, b3, Ne.symm b3, b4, b66, b67, Int32.not_lt.mpr b67, b68, Int32.not_le.mp b68, b75, b76, Int32.not_lt.mpr b76, b77, Int32.not_lt.mpr b77]) dX10_reaches_251
                    · refine lv_iload hx hb dX10_reaches_241 (lv_at hl 0 rfl) ?_
                      refine lv_if_eq (tgt := 250) hx hb dX10_reaches_243 (by decide) (fun h => absurd h (by decide)) (fun _ => ?_)
                      refine lv_iconst (v := 1) hx hb dX10_reaches_246 (by decide) ?_
                      refine lv_goto (tgt := 251) hx hb dX10_reaches_247 (by decide) ?_
                      exact ze_z hx hb hr hlocks (by simp [bI_t, bI_f, y_reach, b1, Ne.symm b1, b2, Ne.symm b2, b3, Ne.symm b3, b4, b66, b67, Int32.not_lt.mpr b67, b68, Int32.not_le.mp b68, b75, b76, Int32.not_lt.mpr b76, b77, Int32.not_le.mp b77]) dX10_reaches_251
                  · refine lv_aload_n hx hb dX10_reaches_217 rfl (lv_at hl 3 rfl) ?_
                    refine lv_iload_n hx hb dX10_reaches_218 rfl (lv_at hl 5 rfl) ?_
                    refine lv_aload_n hx hb dX10_reaches_219 rfl (lv_at hl 3 rfl) ?_
                    refine zg8_33 X hK hW m_1139 dX10_reaches_220 ?_
                    refine lv_iload_n hx hb dX10_reaches_223 rfl (lv_at hl 4 rfl) ?_
                    refine zan64 X hK hW (by omega) dX10_reaches_224 ?_
                    refine zcallRV (As := [.int (nI u), .int (zA μ 64 0 f)]) (rest := []) X hml hK hW (ctX10_sharesRigger l D cy ad μ (nI u) (zA μ 64 0 f) hc hp) zmX10_sharesRigger (by decide) m_1366 (zrecv hK (hW 30 0 rfl (by decide)) rfl) ⟨Nat.le_of_ble_eq_true rfl, Nat.le_of_ble_eq_true rfl⟩ ⟨Nat.zero_le _, Nat.zero_le _⟩ rfl hl.1 rfl (Nat.le_of_ble_eq_true rfl) dX10_reaches_225 ?_
                    refine zb_ne (tgt := 246) hx hb dX10_reaches_228 (by decide) (fun b79 => ?_) (fun b79 => ?_)
                    · refine lv_iconst (v := 1) hx hb dX10_reaches_246 (by decide) ?_
                      refine lv_goto (tgt := 251) hx hb dX10_reaches_247 (by decide) ?_
                      exact ze_z hx hb hr hlocks (by simp [bI_t, bI_f, y_reach, b1, Ne.symm b1, b2, Ne.symm b2, b3, Ne.symm b3, b4, b66, b67, Int32.not_lt.mpr b67, b68, Int32.not_le.mp b68, b75, b76, Int32.not_le.mp b76, b79]) dX10_reaches_251
                    · refine lv_aload_n hx hb dX10_reaches_231 rfl (lv_at hl 3 rfl) ?_
                      refine zg8_35 X hK hW m_1141 dX10_reaches_232 ?_
                      refine lv_iload_n hx hb dX10_reaches_235 rfl (lv_at hl 4 rfl) ?_
                      refine zan66 X hK hW (by omega) dX10_reaches_236 ?_
                      refine lv_iconst (v := 3) hx hb dX10_reaches_237 (by decide) ?_
                      refine lv_icmp_le (tgt := 250) hx hb dX10_reaches_238 (by decide) (fun b80 => ?_) (fun b80 => ?_)
                      · refine lv_iconst (v := 0) hx hb dX10_reaches_250 (by decide) ?_
                        exact ze_z hx hb hr hlocks (by simp [bI_t, bI_f, y_reach, b1, Ne.symm b1, b2, Ne.symm b2, b3, Ne.symm b3, b4, b66, b67, Int32.not_lt.mpr b67, b68, Int32.not_le.mp b68, b75, b76, Int32.not_le.mp b76, b79, b80, Int32.not_lt.mpr b80]) dX10_reaches_251
                      · refine lv_iload hx hb dX10_reaches_241 (lv_at hl 0 rfl) ?_
                        refine lv_if_eq (tgt := 250) hx hb dX10_reaches_243 (by decide) (fun h => absurd h (by decide)) (fun _ => ?_)
                        refine lv_iconst (v := 1) hx hb dX10_reaches_246 (by decide) ?_
                        refine lv_goto (tgt := 251) hx hb dX10_reaches_247 (by decide) ?_
                        exact ze_z hx hb hr hlocks (by simp [bI_t, bI_f, y_reach, b1, Ne.symm b1, b2, Ne.symm b2, b3, Ne.symm b3, b4, b66, b67, Int32.not_lt.mpr b67, b68, Int32.not_le.mp b68, b75, b76, Int32.not_le.mp b76, b79, b80, Int32.not_le.mp b80]) dX10_reaches_251
            · refine lv_iload hx hb dX10_reaches_178 (lv_at hl 1 rfl) ?_
              refine lv_if_ne (tgt := 246) hx hb dX10_reaches_180 (by decide) (fun h => absurd h (by decide)) (fun _ => ?_)
              refine lv_aload_n hx hb dX10_reaches_183 rfl (lv_at hl 3 rfl) ?_
              refine zg8_35 X hK hW m_1141 dX10_reaches_184 ?_
              refine lv_iload_n hx hb dX10_reaches_187 rfl (lv_at hl 4 rfl) ?_
              refine zan66 X hK hW (by omega) dX10_reaches_188 ?_
              refine lv_iconst (v := 1) hx hb dX10_reaches_189 (by decide) ?_
              refine lv_icmp_le (tgt := 207) hx hb dX10_reaches_190 (by decide) (fun b83 => ?_) (fun b83 => ?_)
              · refine lv_aload_n hx hb dX10_reaches_207 rfl (lv_at hl 3 rfl) ?_
                refine zg8_35 X hK hW m_1141 dX10_reaches_208 ?_
                refine lv_iload_n hx hb dX10_reaches_211 rfl (lv_at hl 4 rfl) ?_
                refine zan66 X hK hW (by omega) dX10_reaches_212 ?_
                refine lv_iconst (v := 2) hx hb dX10_reaches_213 (by decide) ?_
                refine lv_icmp_le (tgt := 231) hx hb dX10_reaches_214 (by decide) (fun b84 => ?_) (fun b84 => ?_)
                · refine lv_aload_n hx hb dX10_reaches_231 rfl (lv_at hl 3 rfl) ?_
                  refine zg8_35 X hK hW m_1141 dX10_reaches_232 ?_
                  refine lv_iload_n hx hb dX10_reaches_235 rfl (lv_at hl 4 rfl) ?_
                  refine zan66 X hK hW (by omega) dX10_reaches_236 ?_
                  refine lv_iconst (v := 3) hx hb dX10_reaches_237 (by decide) ?_
                  refine lv_icmp_le (tgt := 250) hx hb dX10_reaches_238 (by decide) (fun b85 => ?_) (fun b85 => ?_)
                  · refine lv_iconst (v := 0) hx hb dX10_reaches_250 (by decide) ?_
                    exact ze_z hx hb hr hlocks (by simp [bI_t, bI_f, y_reach, b1, Ne.symm b1, b2, Ne.symm b2, b3, Ne.symm b3, b4, b66, b67, Int32.not_le.mp b67, b83, Int32.not_lt.mpr b83, b84, Int32.not_lt.mpr b84, b85, Int32.not_lt.mpr b85]) dX10_reaches_251
                  · refine lv_iload hx hb dX10_reaches_241 (lv_at hl 0 rfl) ?_
                    refine lv_if_eq (tgt := 250) hx hb dX10_reaches_243 (by decide) (fun h => absurd h (by decide)) (fun _ => ?_)
                    refine lv_iconst (v := 1) hx hb dX10_reaches_246 (by decide) ?_
                    refine lv_goto (tgt := 251) hx hb dX10_reaches_247 (by decide) ?_
                    exact ze_z hx hb hr hlocks (by simp [bI_t, bI_f, y_reach, b1, Ne.symm b1, b2, Ne.symm b2, b3, Ne.symm b3, b4, b66, b67, Int32.not_le.mp b67, b83, Int32.not_lt.mpr b83, b84, Int32.not_lt.mpr b84, b85, Int32.not_le.mp b85]) dX10_reaches_251
                · refine lv_aload_n hx hb dX10_reaches_217 rfl (lv_at hl 3 rfl) ?_
                  refine lv_iload_n hx hb dX10_reaches_218 rfl (lv_at hl 5 rfl) ?_
                  refine lv_aload_n hx hb dX10_reaches_219 rfl (lv_at hl 3 rfl) ?_
                  refine zg8_33 X hK hW m_1139 dX10_reaches_220 ?_
                  refine lv_iload_n hx hb dX10_reaches_223 rfl (lv_at hl 4 rfl) ?_
                  refine zan64 X hK hW (by omega) dX10_reaches_224 ?_
                  refine zcallRV (As := [.int (nI u), .int (zA μ 64 0 f)]) (rest := []) X hml hK hW (ctX10_sharesRigger l D cy ad μ (nI u) (zA μ 64 0 f) hc hp) zmX10_sharesRigger (by decide) m_1366 (zrecv hK (hW 30 0 rfl (by decide)) rfl) ⟨Nat.le_of_ble_eq_true rfl, Nat.le_of_ble_eq_true rfl⟩ ⟨Nat.zero_le _, Nat.zero_le _⟩ rfl hl.1 rfl (Nat.le_of_ble_eq_true rfl) dX10_reaches_225 ?_
                  refine zb_ne (tgt := 246) hx hb dX10_reaches_228 (by decide) (fun b87 => ?_) (fun b87 => ?_)
                  · refine lv_iconst (v := 1) hx hb dX10_reaches_246 (by decide) ?_
                    refine lv_goto (tgt := 251) hx hb dX10_reaches_247 (by decide) ?_
                    exact ze_z hx hb hr hlocks (by simp [bI_t, bI_f, y_reach, b1, Ne.symm b1, b2, Ne.symm b2, b3, Ne.symm b3, b4, b66, b67, Int32.not_le.mp b67, b83, Int32.not_lt.mpr b83, b84, Int32.not_le.mp b84, b87]) dX10_reaches_251
                  · refine lv_aload_n hx hb dX10_reaches_231 rfl (lv_at hl 3 rfl) ?_
                    refine zg8_35 X hK hW m_1141 dX10_reaches_232 ?_
                    refine lv_iload_n hx hb dX10_reaches_235 rfl (lv_at hl 4 rfl) ?_
                    refine zan66 X hK hW (by omega) dX10_reaches_236 ?_
                    refine lv_iconst (v := 3) hx hb dX10_reaches_237 (by decide) ?_
                    refine lv_icmp_le (tgt := 250) hx hb dX10_reaches_238 (by decide) (fun b88 => ?_) (fun b88 => ?_)
                    · refine lv_iconst (v := 0) hx hb dX10_reaches_250 (by decide) ?_
                      exact ze_z hx hb hr hlocks (by simp [bI_t, bI_f, y_reach, b1, Ne.symm b1, b2, Ne.symm b2, b3, Ne.symm b3, b4, b66, b67, Int32.not_le.mp b67, b83, Int32.not_lt.mpr b83, b84, Int32.not_le.mp b84, b87, b88, Int32.not_lt.mpr b88]) dX10_reaches_251
                    · refine lv_iload hx hb dX10_reaches_241 (lv_at hl 0 rfl) ?_
                      refine lv_if_eq (tgt := 250) hx hb dX10_reaches_243 (by decide) (fun h => absurd h (by decide)) (fun _ => ?_)
                      refine lv_iconst (v := 1) hx hb dX10_reaches_246 (by decide) ?_
                      refine lv_goto (tgt := 251) hx hb dX10_reaches_247 (by decide) ?_
                      exact ze_z hx hb hr hlocks (by simp [bI_t, bI_f, y_reach, b1, Ne.symm b1, b2, Ne.symm b2, b3, Ne.symm b3, b4, b66, b67, Int32.not_le.mp b67, b83, Int32.not_lt.mpr b83, b84, Int32.not_le.mp b84, b87, b88, Int32.not_le.mp b88]) dX10_reaches_251
              · refine lv_aload_n hx hb dX10_reaches_193 rfl (lv_at hl 3 rfl) ?_
                refine lv_iload_n hx hb dX10_reaches_194 rfl (lv_at hl 5 rfl) ?_
                refine lv_aload_n hx hb dX10_reaches_195 rfl (lv_at hl 3 rfl) ?_
                refine zg8_33 X hK hW m_1139 dX10_reaches_196 ?_
                refine lv_iload_n hx hb dX10_reaches_199 rfl (lv_at hl 4 rfl) ?_
                refine zan64 X hK hW (by omega) dX10_reaches_200 ?_
                refine zcallRV (As := [.int (nI u), .int (zA μ 64 0 f)]) (rest := []) X hml hK hW (ctX10_sharesHook l D cy ad μ (nI u) (zA μ 64 0 f) hc hp) zmX10_sharesHook (by decide) m_1362 (zrecv hK (hW 30 0 rfl (by decide)) rfl) ⟨Nat.le_of_ble_eq_true rfl, Nat.le_of_ble_eq_true rfl⟩ ⟨Nat.zero_le _, Nat.zero_le _⟩ rfl hl.1 rfl (Nat.le_of_ble_eq_true rfl) dX10_reaches_201 ?_
                refine zb_ne (tgt := 246) hx hb dX10_reaches_204 (by decide) (fun b90 => ?_) (fun b90 => ?_)
                · refine lv_iconst (v := 1) hx hb dX10_reaches_246 (by decide) ?_
                  refine lv_goto (tgt := 251) hx hb dX10_reaches_247 (by decide) ?_
                  exact ze_z hx hb hr hlocks (by simp [bI_t, bI_f, y_reach, b1, Ne.symm b1, b2, Ne.symm b2, b3, Ne.symm b3, b4, b66, b67, Int32.not_le.mp b67, b83, Int32.not_le.mp b83, b90]) dX10_reaches_251
                · refine lv_aload_n hx hb dX10_reaches_207 rfl (lv_at hl 3 rfl) ?_
                  refine zg8_35 X hK hW m_1141 dX10_reaches_208 ?_
                  refine lv_iload_n hx hb dX10_reaches_211 rfl (lv_at hl 4 rfl) ?_
                  refine zan66 X hK hW (by omega) dX10_reaches_212 ?_
                  refine lv_iconst (v := 2) hx hb dX10_reaches_213 (by decide) ?_
                  refine lv_icmp_le (tgt := 231) hx hb dX10_reaches_214 (by decide) (fun b91 => ?_) (fun b91 => ?_)
                  · refine lv_aload_n hx hb dX10_reaches_231 rfl (lv_at hl 3 rfl) ?_
                    refine zg8_35 X hK hW m_1141 dX10_reaches_232 ?_
                    refine lv_iload_n hx hb dX10_reaches_235 rfl (lv_at hl 4 rfl) ?_
                    refine zan66 X hK hW (by omega) dX10_reaches_236 ?_
                    refine lv_iconst (v := 3) hx hb dX10_reaches_237 (by decide) ?_
                    refine lv_icmp_le (tgt := 250) hx hb dX10_reaches_238 (by decide) (fun b92 => ?_) (fun b92 => ?_)
                    · refine lv_iconst (v := 0) hx hb dX10_reaches_250 (by decide) ?_
                      exact ze_z hx hb hr hlocks (by simp [bI_t, bI_f, y_reach, b1, Ne.symm b1, b2, Ne.symm b2, b3, Ne.symm b3, b4, b66, b67, Int32.not_le.mp b67, b83, Int32.not_le.mp b83, b90, b91, Int32.not_lt.mpr b91, b92, Int32.not_lt.mpr b92]) dX10_reaches_251
                    · refine lv_iload hx hb dX10_reaches_241 (lv_at hl 0 rfl) ?_
                      refine lv_if_eq (tgt := 250) hx hb dX10_reaches_243 (by decide) (fun h => absurd h (by decide)) (fun _ => ?_)
                      refine lv_iconst (v := 1) hx hb dX10_reaches_246 (by decide) ?_
                      refine lv_goto (tgt := 251) hx hb dX10_reaches_247 (by decide) ?_
                      exact ze_z hx hb hr hlocks (by simp [bI_t, bI_f, y_reach, b1, Ne.symm b1, b2, Ne.symm b2, b3, Ne.symm b3, b4, b66, b67, Int32.not_le.mp b67, b83, Int32.not_le.mp b83, b90, b91, Int32.not_lt.mpr b91, b92, Int32.not_le.mp b92]) dX10_reaches_251
                  · refine lv_aload_n hx hb dX10_reaches_217 rfl (lv_at hl 3 rfl) ?_
                    refine lv_iload_n hx hb dX10_reaches_218 rfl (lv_at hl 5 rfl) ?_
                    refine lv_aload_n hx hb dX10_reaches_219 rfl (lv_at hl 3 rfl) ?_
                    refine zg8_33 X hK hW m_1139 dX10_reaches_220 ?_
                    refine lv_iload_n hx hb dX10_reaches_223 rfl (lv_at hl 4 rfl) ?_
                    refine zan64 X hK hW (by omega) dX10_reaches_224 ?_
                    refine zcallRV (As := [.int (nI u), .int (zA μ 64 0 f)]) (rest := []) X hml hK hW (ctX10_sharesRigger l D cy ad μ (nI u) (zA μ 64 0 f) hc hp) zmX10_sharesRigger (by decide) m_1366 (zrecv hK (hW 30 0 rfl (by decide)) rfl) ⟨Nat.le_of_ble_eq_true rfl, Nat.le_of_ble_eq_true rfl⟩ ⟨Nat.zero_le _, Nat.zero_le _⟩ rfl hl.1 rfl (Nat.le_of_ble_eq_true rfl) dX10_reaches_225 ?_
                    refine zb_ne (tgt := 246) hx hb dX10_reaches_228 (by decide) (fun b94 => ?_) (fun b94 => ?_)
                    · refine lv_iconst (v := 1) hx hb dX10_reaches_246 (by decide) ?_
                      refine lv_goto (tgt := 251) hx hb dX10_reaches_247 (by decide) ?_
                      exact ze_z hx hb hr hlocks (by simp [bI_t, bI_f, y_reach, b1, Ne.symm b1, b2, Ne.symm b2, b3, Ne.symm b3, b4, b66, b67, Int32.not_le.mp b67, b83, Int32.not_le.mp b83, b90, b91, Int32.not_le.mp b91, b94]) dX10_reaches_251
                    · refine lv_aload_n hx hb dX10_reaches_231 rfl (lv_at hl 3 rfl) ?_
                      refine zg8_35 X hK hW m_1141 dX10_reaches_232 ?_
                      refine lv_iload_n hx hb dX10_reaches_235 rfl (lv_at hl 4 rfl) ?_
                      refine zan66 X hK hW (by omega) dX10_reaches_236 ?_
                      refine lv_iconst (v := 3) hx hb dX10_reaches_237 (by decide) ?_
                      refine lv_icmp_le (tgt := 250) hx hb dX10_reaches_238 (by decide) (fun b95 => ?_) (fun b95 => ?_)
                      · refine lv_iconst (v := 0) hx hb dX10_reaches_250 (by decide) ?_
                        exact ze_z hx hb hr hlocks (by simp [bI_t, bI_f, y_reach, b1, Ne.symm b1, b2, Ne.symm b2, b3, Ne.symm b3, b4, b66, b67, Int32.not_le.mp b67, b83, Int32.not_le.mp b83, b90, b91, Int32.not_le.mp b91, b94, b95, Int32.not_lt.mpr b95]) dX10_reaches_251
                      · refine lv_iload hx hb dX10_reaches_241 (lv_at hl 0 rfl) ?_
                        refine lv_if_eq (tgt := 250) hx hb dX10_reaches_243 (by decide) (fun h => absurd h (by decide)) (fun _ => ?_)
                        refine lv_iconst (v := 1) hx hb dX10_reaches_246 (by decide) ?_
                        refine lv_goto (tgt := 251) hx hb dX10_reaches_247 (by decide) ?_
                        exact ze_z hx hb hr hlocks (by simp [bI_t, bI_f, y_reach, b1, Ne.symm b1, b2, Ne.symm b2, b3, Ne.symm b3, b4, b66, b67, Int32.not_le.mp b67, b83, Int32.not_le.mp b83, b90, b91, Int32.not_le.mp b91, b94, b95, Int32.not_le.mp b95]) dX10_reaches_251
          · refine lv_aload_n hx hb dX10_reaches_81 rfl (lv_at hl 3 rfl) ?_
            refine zg8_36 X hK hW m_1142 dX10_reaches_82 ?_
            refine lv_iload_n hx hb dX10_reaches_85 rfl (lv_at hl 4 rfl) ?_
            refine zan67 X hK hW (by omega) dX10_reaches_86 ?_
            refine lv_bipush (v := 108) hx hb dX10_reaches_87 (by decide) ?_
            refine lv_icmp_ne (tgt := 97) hx hb dX10_reaches_89 (by decide) (fun b97 => ?_) (fun b97 => ?_)
            · refine lv_aload_n hx hb dX10_reaches_97 rfl (lv_at hl 3 rfl) ?_
              refine zg8_36 X hK hW m_1142 dX10_reaches_98 ?_
              refine lv_iload_n hx hb dX10_reaches_101 rfl (lv_at hl 4 rfl) ?_
              refine zan67 X hK hW (by omega) dX10_reaches_102 ?_
              refine lv_bipush (v := 104) hx hb dX10_reaches_103 (by decide) ?_
              refine lv_icmp_ne (tgt := 122) hx hb dX10_reaches_105 (by decide) (fun b98 => ?_) (fun b98 => ?_)
              · refine lv_aload_n hx hb dX10_reaches_122 rfl (lv_at hl 3 rfl) ?_
                refine zg8_36 X hK hW m_1142 dX10_reaches_123 ?_
                refine lv_iload_n hx hb dX10_reaches_126 rfl (lv_at hl 4 rfl) ?_
                refine zan67 X hK hW (by omega) dX10_reaches_127 ?_
                refine lv_bipush (v := 114) hx hb dX10_reaches_128 (by decide) ?_
                refine lv_icmp_ne (tgt := 147) hx hb dX10_reaches_130 (by decide) (fun b99 => ?_) (fun b99 => ?_)
                · refine lv_aload_n hx hb dX10_reaches_147 rfl (lv_at hl 3 rfl) ?_
                  refine zg8_36 X hK hW m_1142 dX10_reaches_148 ?_
                  refine lv_iload_n hx hb dX10_reaches_151 rfl (lv_at hl 4 rfl) ?_
                  refine zan67 X hK hW (by omega) dX10_reaches_152 ?_
                  refine lv_bipush (v := 99) hx hb dX10_reaches_153 (by decide) ?_
                  refine lv_icmp_ne (tgt := 167) hx hb dX10_reaches_155 (by decide) (fun b100 => ?_) (fun b100 => ?_)
                  · refine lv_iconst (v := 0) hx hb dX10_reaches_167 (by decide) ?_
                    exact ze_z hx hb hr hlocks (by simp [bI_t, bI_f, y_reach, b1, Ne.symm b1, b2, Ne.symm b2, b3, Ne.symm b3, b4, b66, Ne.symm b66, b97, Ne.symm b97, b98, Ne.symm b98, b99, Ne.symm b99, b100, Ne.symm b100]) dX10_reaches_168
                  · refine lv_iload hx hb dX10_reaches_158 (lv_at hl 0 rfl) ?_
                    refine lv_if_eq (tgt := 167) hx hb dX10_reaches_160 (by decide) (fun h => absurd h (by decide)) (fun _ => ?_)
                    refine lv_iconst (v := 1) hx hb dX10_reaches_163 (by decide) ?_
                    refine lv_goto (tgt := 168) hx hb dX10_reaches_164 (by decide) ?_
                    exact ze_z hx hb hr hlocks (by simp [bI_t, bI_f, y_reach, b1, Ne.symm b1, b2, Ne.symm b2, b3, Ne.symm b3, b4, b66, Ne.symm b66, b97, Ne.symm b97, b98, Ne.symm b98, b99, Ne.symm b99, b100]) dX10_reaches_168
                · refine lv_aload_n hx hb dX10_reaches_133 rfl (lv_at hl 3 rfl) ?_
                  refine lv_iload_n hx hb dX10_reaches_134 rfl (lv_at hl 5 rfl) ?_
                  refine lv_aload_n hx hb dX10_reaches_135 rfl (lv_at hl 3 rfl) ?_
                  refine zg8_33 X hK hW m_1139 dX10_reaches_136 ?_
                  refine lv_iload_n hx hb dX10_reaches_139 rfl (lv_at hl 4 rfl) ?_
                  refine zan64 X hK hW (by omega) dX10_reaches_140 ?_
                  refine zcallRV (As := [.int (nI u), .int (zA μ 64 0 f)]) (rest := []) X hml hK hW (ctX10_sharesRigger l D cy ad μ (nI u) (zA μ 64 0 f) hc hp) zmX10_sharesRigger (by decide) m_1366 (zrecv hK (hW 30 0 rfl (by decide)) rfl) ⟨Nat.le_of_ble_eq_true rfl, Nat.le_of_ble_eq_true rfl⟩ ⟨Nat.zero_le _, Nat.zero_le _⟩ rfl hl.1 rfl (Nat.le_of_ble_eq_true rfl) dX10_reaches_141 ?_
                  refine zb_ne (tgt := 163) hx hb dX10_reaches_144 (by decide) (fun b102 => ?_) (fun b102 => ?_)
                  · refine lv_iconst (v := 1) hx hb dX10_reaches_163 (by decide) ?_
                    refine lv_goto (tgt := 168) hx hb dX10_reaches_164 (by decide) ?_
                    exact ze_z hx hb hr hlocks (by simp [bI_t, bI_f, y_reach, b1, Ne.symm b1, b2, Ne.symm b2, b3, Ne.symm b3, b4, b66, Ne.symm b66, b97, Ne.symm b97, b98, Ne.symm b98, b99, b102]) dX10_reaches_168
                  · refine lv_aload_n hx hb dX10_reaches_147 rfl (lv_at hl 3 rfl) ?_
                    refine zg8_36 X hK hW m_1142 dX10_reaches_148 ?_
                    refine lv_iload_n hx hb dX10_reaches_151 rfl (lv_at hl 4 rfl) ?_
                    refine zan67 X hK hW (by omega) dX10_reaches_152 ?_
                    refine lv_bipush (v := 99) hx hb dX10_reaches_153 (by decide) ?_
                    refine lv_icmp_ne (tgt := 167) hx hb dX10_reaches_155 (by decide) (fun b103 => ?_) (fun b103 => ?_)
                    · refine lv_iconst (v := 0) hx hb dX10_reaches_167 (by decide) ?_
                      exact ze_z hx hb hr hlocks (by simp [bI_t, bI_f, y_reach, b1, Ne.symm b1, b2, Ne.symm b2, b3, Ne.symm b3, b4, b66, Ne.symm b66, b97, Ne.symm b97, b98, Ne.symm b98, b99, b102, b103, Ne.symm b103]) dX10_reaches_168
                    · refine lv_iload hx hb dX10_reaches_158 (lv_at hl 0 rfl) ?_
                      refine lv_if_eq (tgt := 167) hx hb dX10_reaches_160 (by decide) (fun h => absurd h (by decide)) (fun _ => ?_)
                      refine lv_iconst (v := 1) hx hb dX10_reaches_163 (by decide) ?_
                      refine lv_goto (tgt := 168) hx hb dX10_reaches_164 (by decide) ?_
                      exact ze_z hx hb hr hlocks (absurd (b99.symm.trans b103) (by decide)) dX10_reaches_168
              · refine lv_aload_n hx hb dX10_reaches_108 rfl (lv_at hl 3 rfl) ?_
                refine lv_iload_n hx hb dX10_reaches_109 rfl (lv_at hl 5 rfl) ?_
                refine lv_aload_n hx hb dX10_reaches_110 rfl (lv_at hl 3 rfl) ?_
                refine zg8_33 X hK hW m_1139 dX10_reaches_111 ?_
                refine lv_iload_n hx hb dX10_reaches_114 rfl (lv_at hl 4 rfl) ?_
                refine zan64 X hK hW (by omega) dX10_reaches_115 ?_
                refine zcallRV (As := [.int (nI u), .int (zA μ 64 0 f)]) (rest := []) X hml hK hW (ctX10_sharesHook l D cy ad μ (nI u) (zA μ 64 0 f) hc hp) zmX10_sharesHook (by decide) m_1362 (zrecv hK (hW 30 0 rfl (by decide)) rfl) ⟨Nat.le_of_ble_eq_true rfl, Nat.le_of_ble_eq_true rfl⟩ ⟨Nat.zero_le _, Nat.zero_le _⟩ rfl hl.1 rfl (Nat.le_of_ble_eq_true rfl) dX10_reaches_116 ?_
                refine zb_ne (tgt := 163) hx hb dX10_reaches_119 (by decide) (fun b105 => ?_) (fun b105 => ?_)
                · refine lv_iconst (v := 1) hx hb dX10_reaches_163 (by decide) ?_
                  refine lv_goto (tgt := 168) hx hb dX10_reaches_164 (by decide) ?_
                  exact ze_z hx hb hr hlocks (by simp [bI_t, bI_f, y_reach, b1, Ne.symm b1, b2, Ne.symm b2, b3, Ne.symm b3, b4, b66, Ne.symm b66, b97, Ne.symm b97, b98, b105]) dX10_reaches_168
                · refine lv_aload_n hx hb dX10_reaches_122 rfl (lv_at hl 3 rfl) ?_
                  refine zg8_36 X hK hW m_1142 dX10_reaches_123 ?_
                  refine lv_iload_n hx hb dX10_reaches_126 rfl (lv_at hl 4 rfl) ?_
                  refine zan67 X hK hW (by omega) dX10_reaches_127 ?_
                  refine lv_bipush (v := 114) hx hb dX10_reaches_128 (by decide) ?_
                  refine lv_icmp_ne (tgt := 147) hx hb dX10_reaches_130 (by decide) (fun b106 => ?_) (fun b106 => ?_)
                  · refine lv_aload_n hx hb dX10_reaches_147 rfl (lv_at hl 3 rfl) ?_
                    refine zg8_36 X hK hW m_1142 dX10_reaches_148 ?_
                    refine lv_iload_n hx hb dX10_reaches_151 rfl (lv_at hl 4 rfl) ?_
                    refine zan67 X hK hW (by omega) dX10_reaches_152 ?_
                    refine lv_bipush (v := 99) hx hb dX10_reaches_153 (by decide) ?_
                    refine lv_icmp_ne (tgt := 167) hx hb dX10_reaches_155 (by decide) (fun b107 => ?_) (fun b107 => ?_)
                    · refine lv_iconst (v := 0) hx hb dX10_reaches_167 (by decide) ?_
                      exact ze_z hx hb hr hlocks (by simp [bI_t, bI_f, y_reach, b1, Ne.symm b1, b2, Ne.symm b2, b3, Ne.symm b3, b4, b66, Ne.symm b66, b97, Ne.symm b97, b98, b105, b106, Ne.symm b106, b107, Ne.symm b107]) dX10_reaches_168
                    · refine lv_iload hx hb dX10_reaches_158 (lv_at hl 0 rfl) ?_
                      refine lv_if_eq (tgt := 167) hx hb dX10_reaches_160 (by decide) (fun h => absurd h (by decide)) (fun _ => ?_)
                      refine lv_iconst (v := 1) hx hb dX10_reaches_163 (by decide) ?_
                      refine lv_goto (tgt := 168) hx hb dX10_reaches_164 (by decide) ?_
                      exact ze_z hx hb hr hlocks (absurd (b98.symm.trans b107) (by decide)) dX10_reaches_168
                  · refine lv_aload_n hx hb dX10_reaches_133 rfl (lv_at hl 3 rfl) ?_
                    refine lv_iload_n hx hb dX10_reaches_134 rfl (lv_at hl 5 rfl) ?_
                    refine lv_aload_n hx hb dX10_reaches_135 rfl (lv_at hl 3 rfl) ?_
                    refine zg8_33 X hK hW m_1139 dX10_reaches_136 ?_
                    refine lv_iload_n hx hb dX10_reaches_139 rfl (lv_at hl 4 rfl) ?_
                    refine zan64 X hK hW (by omega) dX10_reaches_140 ?_
                    refine zcallRV (As := [.int (nI u), .int (zA μ 64 0 f)]) (rest := []) X hml hK hW (ctX10_sharesRigger l D cy ad μ (nI u) (zA μ 64 0 f) hc hp) zmX10_sharesRigger (by decide) m_1366 (zrecv hK (hW 30 0 rfl (by decide)) rfl) ⟨Nat.le_of_ble_eq_true rfl, Nat.le_of_ble_eq_true rfl⟩ ⟨Nat.zero_le _, Nat.zero_le _⟩ rfl hl.1 rfl (Nat.le_of_ble_eq_true rfl) dX10_reaches_141 ?_
                    refine zb_ne (tgt := 163) hx hb dX10_reaches_144 (by decide) (fun b109 => ?_) (fun b109 => ?_)
                    · refine lv_iconst (v := 1) hx hb dX10_reaches_163 (by decide) ?_
                      refine lv_goto (tgt := 168) hx hb dX10_reaches_164 (by decide) ?_
                      exact ze_z hx hb hr hlocks (absurd (b98.symm.trans b106) (by decide)) dX10_reaches_168
                    · refine lv_aload_n hx hb dX10_reaches_147 rfl (lv_at hl 3 rfl) ?_
                      refine zg8_36 X hK hW m_1142 dX10_reaches_148 ?_
                      refine lv_iload_n hx hb dX10_reaches_151 rfl (lv_at hl 4 rfl) ?_
                      refine zan67 X hK hW (by omega) dX10_reaches_152 ?_
                      refine lv_bipush (v := 99) hx hb dX10_reaches_153 (by decide) ?_
                      refine lv_icmp_ne (tgt := 167) hx hb dX10_reaches_155 (by decide) (fun b110 => ?_) (fun b110 => ?_)
                      · refine lv_iconst (v := 0) hx hb dX10_reaches_167 (by decide) ?_
                        exact ze_z hx hb hr hlocks (absurd (b98.symm.trans b106) (by decide)) dX10_reaches_168
                      · refine lv_iload hx hb dX10_reaches_158 (lv_at hl 0 rfl) ?_
                        refine lv_if_eq (tgt := 167) hx hb dX10_reaches_160 (by decide) (fun h => absurd h (by decide)) (fun _ => ?_)
                        refine lv_iconst (v := 1) hx hb dX10_reaches_163 (by decide) ?_
                        refine lv_goto (tgt := 168) hx hb dX10_reaches_164 (by decide) ?_
                        exact ze_z hx hb hr hlocks (absurd (b98.symm.trans b106) (by decide)) dX10_reaches_168
            · refine lv_iload hx hb dX10_reaches_92 (lv_at hl 1 rfl) ?_
              refine lv_if_ne (tgt := 163) hx hb dX10_reaches_94 (by decide) (fun h => absurd h (by decide)) (fun _ => ?_)
              refine lv_aload_n hx hb dX10_reaches_97 rfl (lv_at hl 3 rfl) ?_
              refine zg8_36 X hK hW m_1142 dX10_reaches_98 ?_
              refine lv_iload_n hx hb dX10_reaches_101 rfl (lv_at hl 4 rfl) ?_
              refine zan67 X hK hW (by omega) dX10_reaches_102 ?_
              refine lv_bipush (v := 104) hx hb dX10_reaches_103 (by decide) ?_
              refine lv_icmp_ne (tgt := 122) hx hb dX10_reaches_105 (by decide) (fun b113 => ?_) (fun b113 => ?_)
              · refine lv_aload_n hx hb dX10_reaches_122 rfl (lv_at hl 3 rfl) ?_
                refine zg8_36 X hK hW m_1142 dX10_reaches_123 ?_
                refine lv_iload_n hx hb dX10_reaches_126 rfl (lv_at hl 4 rfl) ?_
                refine zan67 X hK hW (by omega) dX10_reaches_127 ?_
                refine lv_bipush (v := 114) hx hb dX10_reaches_128 (by decide) ?_
                refine lv_icmp_ne (tgt := 147) hx hb dX10_reaches_130 (by decide) (fun b114 => ?_) (fun b114 => ?_)
                · refine lv_aload_n hx hb dX10_reaches_147 rfl (lv_at hl 3 rfl) ?_
                  refine zg8_36 X hK hW m_1142 dX10_reaches_148 ?_
                  refine lv_iload_n hx hb dX10_reaches_151 rfl (lv_at hl 4 rfl) ?_
                  refine zan67 X hK hW (by omega) dX10_reaches_152 ?_
                  refine lv_bipush (v := 99) hx hb dX10_reaches_153 (by decide) ?_
                  refine lv_icmp_ne (tgt := 167) hx hb dX10_reaches_155 (by decide) (fun b115 => ?_) (fun b115 => ?_)
                  · refine lv_iconst (v := 0) hx hb dX10_reaches_167 (by decide) ?_
                    exact ze_z hx hb hr hlocks (by simp [bI_t, bI_f, y_reach, b1, Ne.symm b1, b2, Ne.symm b2, b3, Ne.symm b3, b4, b66, Ne.symm b66, b97, b113, Ne.symm b113, b114, Ne.symm b114, b115, Ne.symm b115]) dX10_reaches_168
                  · refine lv_iload hx hb dX10_reaches_158 (lv_at hl 0 rfl) ?_
                    refine lv_if_eq (tgt := 167) hx hb dX10_reaches_160 (by decide) (fun h => absurd h (by decide)) (fun _ => ?_)
                    refine lv_iconst (v := 1) hx hb dX10_reaches_163 (by decide) ?_
                    refine lv_goto (tgt := 168) hx hb dX10_reaches_164 (by decide) ?_
                    exact ze_z hx hb hr hlocks (absurd (b97.symm.trans b115) (by decide)) dX10_reaches_168
                · refine lv_aload_n hx hb dX10_reaches_133 rfl (lv_at hl 3 rfl) ?_
                  refine lv_iload_n hx hb dX10_reaches_134 rfl (lv_at hl 5 rfl) ?_
                  refine lv_aload_n hx hb dX10_reaches_135 rfl (lv_at hl 3 rfl) ?_
                  refine zg8_33 X hK hW m_1139 dX10_reaches_136 ?_
                  refine lv_iload_n hx hb dX10_reaches_139 rfl (lv_at hl 4 rfl) ?_
                  refine zan64 X hK hW (by omega) dX10_reaches_140 ?_
                  refine zcallRV (As := [.int (nI u), .int (zA μ 64 0 f)]) (rest := []) X hml hK hW (ctX10_sharesRigger l D cy ad μ (nI u) (zA μ 64 0 f) hc hp) zmX10_sharesRigger (by decide) m_1366 (zrecv hK (hW 30 0 rfl (by decide)) rfl) ⟨Nat.le_of_ble_eq_true rfl, Nat.le_of_ble_eq_true rfl⟩ ⟨Nat.zero_le _, Nat.zero_le _⟩ rfl hl.1 rfl (Nat.le_of_ble_eq_true rfl) dX10_reaches_141 ?_
                  refine zb_ne (tgt := 163) hx hb dX10_reaches_144 (by decide) (fun b117 => ?_) (fun b117 => ?_)
                  · refine lv_iconst (v := 1) hx hb dX10_reaches_163 (by decide) ?_
                    refine lv_goto (tgt := 168) hx hb dX10_reaches_164 (by decide) ?_
                    exact ze_z hx hb hr hlocks (absurd (b97.symm.trans b114) (by decide)) dX10_reaches_168
                  · refine lv_aload_n hx hb dX10_reaches_147 rfl (lv_at hl 3 rfl) ?_
                    refine zg8_36 X hK hW m_1142 dX10_reaches_148 ?_
                    refine lv_iload_n hx hb dX10_reaches_151 rfl (lv_at hl 4 rfl) ?_
                    refine zan67 X hK hW (by omega) dX10_reaches_152 ?_
                    refine lv_bipush (v := 99) hx hb dX10_reaches_153 (by decide) ?_
                    refine lv_icmp_ne (tgt := 167) hx hb dX10_reaches_155 (by decide) (fun b118 => ?_) (fun b118 => ?_)
                    · refine lv_iconst (v := 0) hx hb dX10_reaches_167 (by decide) ?_
                      exact ze_z hx hb hr hlocks (absurd (b97.symm.trans b114) (by decide)) dX10_reaches_168
                    · refine lv_iload hx hb dX10_reaches_158 (lv_at hl 0 rfl) ?_
                      refine lv_if_eq (tgt := 167) hx hb dX10_reaches_160 (by decide) (fun h => absurd h (by decide)) (fun _ => ?_)
                      refine lv_iconst (v := 1) hx hb dX10_reaches_163 (by decide) ?_
                      refine lv_goto (tgt := 168) hx hb dX10_reaches_164 (by decide) ?_
                      exact ze_z hx hb hr hlocks (absurd (b97.symm.trans b114) (by decide)) dX10_reaches_168
              · refine lv_aload_n hx hb dX10_reaches_108 rfl (lv_at hl 3 rfl) ?_
                refine lv_iload_n hx hb dX10_reaches_109 rfl (lv_at hl 5 rfl) ?_
                refine lv_aload_n hx hb dX10_reaches_110 rfl (lv_at hl 3 rfl) ?_
                refine zg8_33 X hK hW m_1139 dX10_reaches_111 ?_
                refine lv_iload_n hx hb dX10_reaches_114 rfl (lv_at hl 4 rfl) ?_
                refine zan64 X hK hW (by omega) dX10_reaches_115 ?_
                refine zcallRV (As := [.int (nI u), .int (zA μ 64 0 f)]) (rest := []) X hml hK hW (ctX10_sharesHook l D cy ad μ (nI u) (zA μ 64 0 f) hc hp) zmX10_sharesHook (by decide) m_1362 (zrecv hK (hW 30 0 rfl (by decide)) rfl) ⟨Nat.le_of_ble_eq_true rfl, Nat.le_of_ble_eq_true rfl⟩ ⟨Nat.zero_le _, Nat.zero_le _⟩ rfl hl.1 rfl (Nat.le_of_ble_eq_true rfl) dX10_reaches_116 ?_
                refine zb_ne (tgt := 163) hx hb dX10_reaches_119 (by decide) (fun b120 => ?_) (fun b120 => ?_)
                · refine lv_iconst (v := 1) hx hb dX10_reaches_163 (by decide) ?_
                  refine lv_goto (tgt := 168) hx hb dX10_reaches_164 (by decide) ?_
                  exact ze_z hx hb hr hlocks (absurd (b97.symm.trans b113) (by decide)) dX10_reaches_168
                · refine lv_aload_n hx hb dX10_reaches_122 rfl (lv_at hl 3 rfl) ?_
                  refine zg8_36 X hK hW m_1142 dX10_reaches_123 ?_
                  refine lv_iload_n hx hb dX10_reaches_126 rfl (lv_at hl 4 rfl) ?_
                  refine zan67 X hK hW (by omega) dX10_reaches_127 ?_
                  refine lv_bipush (v := 114) hx hb dX10_reaches_128 (by decide) ?_
                  refine lv_icmp_ne (tgt := 147) hx hb dX10_reaches_130 (by decide) (fun b121 => ?_) (fun b121 => ?_)
                  · refine lv_aload_n hx hb dX10_reaches_147 rfl (lv_at hl 3 rfl) ?_
                    refine zg8_36 X hK hW m_1142 dX10_reaches_148 ?_
                    refine lv_iload_n hx hb dX10_reaches_151 rfl (lv_at hl 4 rfl) ?_
                    refine zan67 X hK hW (by omega) dX10_reaches_152 ?_
                    refine lv_bipush (v := 99) hx hb dX10_reaches_153 (by decide) ?_
                    refine lv_icmp_ne (tgt := 167) hx hb dX10_reaches_155 (by decide) (fun b122 => ?_) (fun b122 => ?_)
                    · refine lv_iconst (v := 0) hx hb dX10_reaches_167 (by decide) ?_
                      exact ze_z hx hb hr hlocks (absurd (b97.symm.trans b113) (by decide)) dX10_reaches_168
                    · refine lv_iload hx hb dX10_reaches_158 (lv_at hl 0 rfl) ?_
                      refine lv_if_eq (tgt := 167) hx hb dX10_reaches_160 (by decide) (fun h => absurd h (by decide)) (fun _ => ?_)
                      refine lv_iconst (v := 1) hx hb dX10_reaches_163 (by decide) ?_
                      refine lv_goto (tgt := 168) hx hb dX10_reaches_164 (by decide) ?_
                      exact ze_z hx hb hr hlocks (absurd (b97.symm.trans b113) (by decide)) dX10_reaches_168
                  · refine lv_aload_n hx hb dX10_reaches_133 rfl (lv_at hl 3 rfl) ?_
                    refine lv_iload_n hx hb dX10_reaches_134 rfl (lv_at hl 5 rfl) ?_
                    refine lv_aload_n hx hb dX10_reaches_135 rfl (lv_at hl 3 rfl) ?_
                    refine zg8_33 X hK hW m_1139 dX10_reaches_136 ?_
                    refine lv_iload_n hx hb dX10_reaches_139 rfl (lv_at hl 4 rfl) ?_
                    refine zan64 X hK hW (by omega) dX10_reaches_140 ?_
                    refine zcallRV (As := [.int (nI u), .int (zA μ 64 0 f)]) (rest := []) X hml hK hW (ctX10_sharesRigger l D cy ad μ (nI u) (zA μ 64 0 f) hc hp) zmX10_sharesRigger (by decide) m_1366 (zrecv hK (hW 30 0 rfl (by decide)) rfl) ⟨Nat.le_of_ble_eq_true rfl, Nat.le_of_ble_eq_true rfl⟩ ⟨Nat.zero_le _, Nat.zero_le _⟩ rfl hl.1 rfl (Nat.le_of_ble_eq_true rfl) dX10_reaches_141 ?_
                    refine zb_ne (tgt := 163) hx hb dX10_reaches_144 (by decide) (fun b124 => ?_) (fun b124 => ?_)
                    · refine lv_iconst (v := 1) hx hb dX10_reaches_163 (by decide) ?_
                      refine lv_goto (tgt := 168) hx hb dX10_reaches_164 (by decide) ?_
                      exact ze_z hx hb hr hlocks (absurd (b97.symm.trans b113) (by decide)) dX10_reaches_168
                    · refine lv_aload_n hx hb dX10_reaches_147 rfl (lv_at hl 3 rfl) ?_
                      refine zg8_36 X hK hW m_1142 dX10_reaches_148 ?_
                      refine lv_iload_n hx hb dX10_reaches_151 rfl (lv_at hl 4 rfl) ?_
                      refine zan67 X hK hW (by omega) dX10_reaches_152 ?_
                      refine lv_bipush (v := 99) hx hb dX10_reaches_153 (by decide) ?_
                      refine lv_icmp_ne (tgt := 167) hx hb dX10_reaches_155 (by decide) (fun b125 => ?_) (fun b125 => ?_)
                      · refine lv_iconst (v := 0) hx hb dX10_reaches_167 (by decide) ?_
                        exact ze_z hx hb hr hlocks (absurd (b97.symm.trans b113) (by decide)) dX10_reaches_168
                      · refine lv_iload hx hb dX10_reaches_158 (lv_at hl 0 rfl) ?_
                        refine lv_if_eq (tgt := 167) hx hb dX10_reaches_160 (by decide) (fun h => absurd h (by decide)) (fun _ => ?_)
                        refine lv_iconst (v := 1) hx hb dX10_reaches_163 (by decide) ?_
                        refine lv_goto (tgt := 168) hx hb dX10_reaches_164 (by decide) ?_
                        exact ze_z hx hb hr hlocks (absurd (b97.symm.trans b113) (by decide)) dX10_reaches_168
      · refine lv_iconst (v := 1) hx hb dX10_reaches_41 (by decide) ?_
        refine lv_goto (tgt := 46) hx hb dX10_reaches_42 (by decide) ?_
        refine lv_istore (lv' := [(4, .int 1), (3, .int (zA μ 63 0 f)), (0, .ref (ad 30 0)), (1, .int (nI f)), (2, .int (nI u))]) hx hb dX10_reaches_46 hl (by decide) rfl (fun ls hl => ?_)
        refine lv_aload_n hx hb dX10_reaches_48 rfl (lv_at hl 2 rfl) ?_
        refine zg8_3 X hK hW m_1109 dX10_reaches_49 ?_
        refine lv_iload_n hx hb dX10_reaches_52 rfl (lv_at hl 4 rfl) ?_
        refine zan34 X hK hW (by omega) dX10_reaches_53 ?_
        refine lv_aload_n hx hb dX10_reaches_54 rfl (lv_at hl 2 rfl) ?_
        refine zg8_3 X hK hW m_1109 dX10_reaches_55 ?_
        refine lv_iload_n hx hb dX10_reaches_58 rfl (lv_at hl 1 rfl) ?_
        refine za34 X hK hW hf dX10_reaches_59 ?_
        refine lv_icmp_ne (tgt := 67) hx hb dX10_reaches_60 (by decide) (fun b127 => ?_) (fun b127 => ?_)
        · refine lv_iconst (v := 0) hx hb dX10_reaches_67 (by decide) ?_
          refine lv_istore (lv' := [(5, .int 0), (4, .int 1), (3, .int (zA μ 63 0 f)), (0, .ref (ad 30 0)), (1, .int (nI f)), (2, .int (nI u))]) hx hb dX10_reaches_68 hl (by decide) rfl (fun ls hl => ?_)
          refine lv_aload_n hx hb dX10_reaches_70 rfl (lv_at hl 3 rfl) ?_
          refine zg8_36 X hK hW m_1142 dX10_reaches_71 ?_
          refine lv_iload_n hx hb dX10_reaches_74 rfl (lv_at hl 4 rfl) ?_
          refine zan67 X hK hW (by omega) dX10_reaches_75 ?_
          refine lv_bipush (v := 45) hx hb dX10_reaches_76 (by decide) ?_
          refine lv_icmp_eq (tgt := 169) hx hb dX10_reaches_78 (by decide) (fun b128 => ?_) (fun b128 => ?_)
          · refine lv_aload_n hx hb dX10_reaches_169 rfl (lv_at hl 3 rfl) ?_
            refine zg8_35 X hK hW m_1141 dX10_reaches_170 ?_
            refine lv_iload_n hx hb dX10_reaches_173 rfl (lv_at hl 4 rfl) ?_
            refine zan66 X hK hW (by omega) dX10_reaches_174 ?_
            refine lv_if_le (tgt := 183) hx hb dX10_reaches_175 (by decide) (fun b129 => ?_) (fun b129 => ?_)
            · refine lv_aload_n hx hb dX10_reaches_183 rfl (lv_at hl 3 rfl) ?_
              refine zg8_35 X hK hW m_1141 dX10_reaches_184 ?_
              refine lv_iload_n hx hb dX10_reaches_187 rfl (lv_at hl 4 rfl) ?_
              refine zan66 X hK hW (by omega) dX10_reaches_188 ?_
              refine lv_iconst (v := 1) hx hb dX10_reaches_189 (by decide) ?_
              refine lv_icmp_le (tgt := 207) hx hb dX10_reaches_190 (by decide) (fun b130 => ?_) (fun b130 => ?_)
              · refine lv_aload_n hx hb dX10_reaches_207 rfl (lv_at hl 3 rfl) ?_
                refine zg8_35 X hK hW m_1141 dX10_reaches_208 ?_
                refine lv_iload_n hx hb dX10_reaches_211 rfl (lv_at hl 4 rfl) ?_
                refine zan66 X hK hW (by omega) dX10_reaches_212 ?_
                refine lv_iconst (v := 2) hx hb dX10_reaches_213 (by decide) ?_
                refine lv_icmp_le (tgt := 231) hx hb dX10_reaches_214 (by decide) (fun b131 => ?_) (fun b131 => ?_)
                · refine lv_aload_n hx hb dX10_reaches_231 rfl (lv_at hl 3 rfl) ?_
                  refine zg8_35 X hK hW m_1141 dX10_reaches_232 ?_
                  refine lv_iload_n hx hb dX10_reaches_235 rfl (lv_at hl 4 rfl) ?_
                  refine zan66 X hK hW (by omega) dX10_reaches_236 ?_
                  refine lv_iconst (v := 3) hx hb dX10_reaches_237 (by decide) ?_
                  refine lv_icmp_le (tgt := 250) hx hb dX10_reaches_238 (by decide) (fun b132 => ?_) (fun b132 => ?_)
                  · refine lv_iconst (v := 0) hx hb dX10_reaches_250 (by decide) ?_
                    exact ze_z hx hb hr hlocks (by simp [bI_t, bI_f, y_reach, b1, Ne.symm b1, b2, Ne.symm b2, b3, b127, Ne.symm b127, b128, b129, Int32.not_lt.mpr b129, b130, Int32.not_lt.mpr b130, b131, Int32.not_lt.mpr b131, b132, Int32.not_lt.mpr b132]) dX10_reaches_251
                  · refine lv_iload hx hb dX10_reaches_241 (lv_at hl 0 rfl) ?_
                    refine lv_if_eq (tgt := 250) hx hb dX10_reaches_243 (by decide) (fun _ => ?_) (fun h => absurd h (by decide))
                    refine lv_iconst (v := 0) hx hb dX10_reaches_250 (by decide) ?_
                    exact ze_z hx hb hr hlocks (by simp [bI_t, bI_f, y_reach, b1, Ne.symm b1, b2, Ne.symm b2, b3, b127, Ne.symm b127, b128, b129, Int32.not_lt.mpr b129, b130, Int32.not_lt.mpr b130, b131, Int32.not_lt.mpr b131, b132, Int32.not_le.mp b132]) dX10_reaches_251
                · refine lv_aload_n hx hb dX10_reaches_217 rfl (lv_at hl 3 rfl) ?_
                  refine lv_iload_n hx hb dX10_reaches_218 rfl (lv_at hl 5 rfl) ?_
                  refine lv_aload_n hx hb dX10_reaches_219 rfl (lv_at hl 3 rfl) ?_
                  refine zg8_33 X hK hW m_1139 dX10_reaches_220 ?_
                  refine lv_iload_n hx hb dX10_reaches_223 rfl (lv_at hl 4 rfl) ?_
                  refine zan64 X hK hW (by omega) dX10_reaches_224 ?_
                  refine zcallRV (As := [.int (nI u), .int (zA μ 64 0 f)]) (rest := []) X hml hK hW (ctX10_sharesRigger l D cy ad μ (nI u) (zA μ 64 0 f) hc hp) zmX10_sharesRigger (by decide) m_1366 (zrecv hK (hW 30 0 rfl (by decide)) rfl) ⟨Nat.le_of_ble_eq_true rfl, Nat.le_of_ble_eq_true rfl⟩ ⟨Nat.zero_le _, Nat.zero_le _⟩ rfl hl.1 rfl (Nat.le_of_ble_eq_true rfl) dX10_reaches_225 ?_
                  refine zb_ne (tgt := 246) hx hb dX10_reaches_228 (by decide) (fun b134 => ?_) (fun b134 => ?_)
                  · refine lv_iconst (v := 1) hx hb dX10_reaches_246 (by decide) ?_
                    refine lv_goto (tgt := 251) hx hb dX10_reaches_247 (by decide) ?_
                    exact ze_z hx hb hr hlocks (by simp [bI_t, bI_f, y_reach, b1, Ne.symm b1, b2, Ne.symm b2, b3, b127, Ne.symm b127, b128, b129, Int32.not_lt.mpr b129, b130, Int32.not_lt.mpr b130, b131, Int32.not_le.mp b131, b134]) dX10_reaches_251
                  · refine lv_aload_n hx hb dX10_reaches_231 rfl (lv_at hl 3 rfl) ?_
                    refine zg8_35 X hK hW m_1141 dX10_reaches_232 ?_
                    refine lv_iload_n hx hb dX10_reaches_235 rfl (lv_at hl 4 rfl) ?_
                    refine zan66 X hK hW (by omega) dX10_reaches_236 ?_
                    refine lv_iconst (v := 3) hx hb dX10_reaches_237 (by decide) ?_
                    refine lv_icmp_le (tgt := 250) hx hb dX10_reaches_238 (by decide) (fun b135 => ?_) (fun b135 => ?_)
                    · refine lv_iconst (v := 0) hx hb dX10_reaches_250 (by decide) ?_
                      exact ze_z hx hb hr hlocks (by simp [bI_t, bI_f, y_reach, b1, Ne.symm b1, b2, Ne.symm b2, b3, b127, Ne.symm b127, b128, b129, Int32.not_lt.mpr b129, b130, Int32.not_lt.mpr b130, b131, Int32.not_le.mp b131, b134, b135, Int32.not_lt.mpr b135]) dX10_reaches_251
                    · refine lv_iload hx hb dX10_reaches_241 (lv_at hl 0 rfl) ?_
                      refine lv_if_eq (tgt := 250) hx hb dX10_reaches_243 (by decide) (fun _ => ?_) (fun h => absurd h (by decide))
                      refine lv_iconst (v := 0) hx hb dX10_reaches_250 (by decide) ?_
                      exact ze_z hx hb hr hlocks (by simp [bI_t, bI_f, y_reach, b1, Ne.symm b1, b2, Ne.symm b2, b3, b127, Ne.symm b127, b128, b129, Int32.not_lt.mpr b129, b130, Int32.not_lt.mpr b130, b131, Int32.not_le.mp b131, b134, b135, Int32.not_le.mp b135]) dX10_reaches_251
              · refine lv_aload_n hx hb dX10_reaches_193 rfl (lv_at hl 3 rfl) ?_
                refine lv_iload_n hx hb dX10_reaches_194 rfl (lv_at hl 5 rfl) ?_
                refine lv_aload_n hx hb dX10_reaches_195 rfl (lv_at hl 3 rfl) ?_
                refine zg8_33 X hK hW m_1139 dX10_reaches_196 ?_
                refine lv_iload_n hx hb dX10_reaches_199 rfl (lv_at hl 4 rfl) ?_
                refine zan64 X hK hW (by omega) dX10_reaches_200 ?_
                refine zcallRV (As := [.int (nI u), .int (zA μ 64 0 f)]) (rest := []) X hml hK hW (ctX10_sharesHook l D cy ad μ (nI u) (zA μ 64 0 f) hc hp) zmX10_sharesHook (by decide) m_1362 (zrecv hK (hW 30 0 rfl (by decide)) rfl) ⟨Nat.le_of_ble_eq_true rfl, Nat.le_of_ble_eq_true rfl⟩ ⟨Nat.zero_le _, Nat.zero_le _⟩ rfl hl.1 rfl (Nat.le_of_ble_eq_true rfl) dX10_reaches_201 ?_
                refine zb_ne (tgt := 246) hx hb dX10_reaches_204 (by decide) (fun b137 => ?_) (fun b137 => ?_)
                · refine lv_iconst (v := 1) hx hb dX10_reaches_246 (by decide) ?_
                  refine lv_goto (tgt := 251) hx hb dX10_reaches_247 (by decide) ?_
                  exact ze_z hx hb hr hlocks (by simp [bI_t, bI_f, y_reach, b1, Ne.symm b1, b2, Ne.symm b2, b3, b127, Ne.symm b127, b128, b129, Int32.not_lt.mpr b129, b130, Int32.not_le.mp b130, b137]) dX10_reaches_251
                · refine lv_aload_n hx hb dX10_reaches_207 rfl (lv_at hl 3 rfl) ?_
                  refine zg8_35 X hK hW m_1141 dX10_reaches_208 ?_
                  refine lv_iload_n hx hb dX10_reaches_211 rfl (lv_at hl 4 rfl) ?_
                  refine zan66 X hK hW (by omega) dX10_reaches_212 ?_
                  refine lv_iconst (v := 2) hx hb dX10_reaches_213 (by decide) ?_
                  refine lv_icmp_le (tgt := 231) hx hb dX10_reaches_214 (by decide) (fun b138 => ?_) (fun b138 => ?_)
                  · refine lv_aload_n hx hb dX10_reaches_231 rfl (lv_at hl 3 rfl) ?_
                    refine zg8_35 X hK hW m_1141 dX10_reaches_232 ?_
                    refine lv_iload_n hx hb dX10_reaches_235 rfl (lv_at hl 4 rfl) ?_
                    refine zan66 X hK hW (by omega) dX10_reaches_236 ?_
                    refine lv_iconst (v := 3) hx hb dX10_reaches_237 (by decide) ?_
                    refine lv_icmp_le (tgt := 250) hx hb dX10_reaches_238 (by decide) (fun b139 => ?_) (fun b139 => ?_)
                    · refine lv_iconst (v := 0) hx hb dX10_reaches_250 (by decide) ?_
                      exact ze_z hx hb hr hlocks (by simp [bI_t, bI_f, y_reach, b1, Ne.symm b1, b2, Ne.symm b2, b3, b127, Ne.symm b127, b128, b129, Int32.not_lt.mpr b129, b130, Int32.not_le.mp b130, b137, b138, Int32.not_lt.mpr b138, b139, Int32.not_lt.mpr b139]) dX10_reaches_251
                    · refine lv_iload hx hb dX10_reaches_241 (lv_at hl 0 rfl) ?_
                      refine lv_if_eq (tgt := 250) hx hb dX10_reaches_243 (by decide) (fun _ => ?_) (fun h => absurd h (by decide))
                      refine lv_iconst (v := 0) hx hb dX10_reaches_250 (by decide) ?_
                      exact ze_z hx hb hr hlocks (by simp [bI_t, bI_f, y_reach, b1, Ne.symm b1, b2, Ne.symm b2, b3, b127, Ne.symm b127, b128, b129, Int32.not_lt.mpr b129, b130, Int32.not_le.mp b130, b137, b138, Int32.not_lt.mpr b138, b139, Int32.not_le.mp b139]) dX10_reaches_251
                  · refine lv_aload_n hx hb dX10_reaches_217 rfl (lv_at hl 3 rfl) ?_
                    refine lv_iload_n hx hb dX10_reaches_218 rfl (lv_at hl 5 rfl) ?_
                    refine lv_aload_n hx hb dX10_reaches_219 rfl (lv_at hl 3 rfl) ?_
                    refine zg8_33 X hK hW m_1139 dX10_reaches_220 ?_
                    refine lv_iload_n hx hb dX10_reaches_223 rfl (lv_at hl 4 rfl) ?_
                    refine zan64 X hK hW (by omega) dX10_reaches_224 ?_
                    refine zcallRV (As := [.int (nI u), .int (zA μ 64 0 f)]) (rest := []) X hml hK hW (ctX10_sharesRigger l D cy ad μ (nI u) (zA μ 64 0 f) hc hp) zmX10_sharesRigger (by decide) m_1366 (zrecv hK (hW 30 0 rfl (by decide)) rfl) ⟨Nat.le_of_ble_eq_true rfl, Nat.le_of_ble_eq_true rfl⟩ ⟨Nat.zero_le _, Nat.zero_le _⟩ rfl hl.1 rfl (Nat.le_of_ble_eq_true rfl) dX10_reaches_225 ?_
                    refine zb_ne (tgt := 246) hx hb dX10_reaches_228 (by decide) (fun b141 => ?_) (fun b141 => ?_)
                    · refine lv_iconst (v := 1) hx hb dX10_reaches_246 (by decide) ?_
                      refine lv_goto (tgt := 251) hx hb dX10_reaches_247 (by decide) ?_
                      exact ze_z hx hb hr hlocks (by simp [bI_t, bI_f, y_reach, b1, Ne.symm b1, b2, Ne.symm b2, b3, b127, Ne.symm b127, b128, b129, Int32.not_lt.mpr b129, b130, Int32.not_le.mp b130, b137, b138, Int32.not_le.mp b138, b141]) dX10_reaches_251
                    · refine lv_aload_n hx hb dX10_reaches_231 rfl (lv_at hl 3 rfl) ?_
                      refine zg8_35 X hK hW m_1141 dX10_reaches_232 ?_
                      refine lv_iload_n hx hb dX10_reaches_235 rfl (lv_at hl 4 rfl) ?_
                      refine zan66 X hK hW (by omega) dX10_reaches_236 ?_
                      refine lv_iconst (v := 3) hx hb dX10_reaches_237 (by decide) ?_
                      refine lv_icmp_le (tgt := 250) hx hb dX10_reaches_238 (by decide) (fun b142 => ?_) (fun b142 => ?_)
                      · refine lv_iconst (v := 0) hx hb dX10_reaches_250 (by decide) ?_
                        exact ze_z hx hb hr hlocks (by simp [bI_t, bI_f, y_reach, b1, Ne.symm b1, b2, Ne.symm b2, b3, b127, Ne.symm b127, b128, b129, Int32.not_lt.mpr b129, b130, Int32.not_le.mp b130, b137, b138, Int32.not_le.mp b138, b141, b142, Int32.not_lt.mpr b142]) dX10_reaches_251
                      · refine lv_iload hx hb dX10_reaches_241 (lv_at hl 0 rfl) ?_
                        refine lv_if_eq (tgt := 250) hx hb dX10_reaches_243 (by decide) (fun _ => ?_) (fun h => absurd h (by decide))
                        refine lv_iconst (v := 0) hx hb dX10_reaches_250 (by decide) ?_
                        exact ze_z hx hb hr hlocks (by simp [bI_t, bI_f, y_reach, b1, Ne.symm b1, b2, Ne.symm b2, b3, b127, Ne.symm b127, b128, b129, Int32.not_lt.mpr b129, b130, Int32.not_le.mp b130, b137, b138, Int32.not_le.mp b138, b141, b142, Int32.not_le.mp b142]) dX10_reaches_251
            · refine lv_iload hx hb dX10_reaches_178 (lv_at hl 1 rfl) ?_
              refine lv_if_ne (tgt := 246) hx hb dX10_reaches_180 (by decide) (fun _ => ?_) (fun h => absurd h (by decide))
              refine lv_iconst (v := 1) hx hb dX10_reaches_246 (by decide) ?_
              refine lv_goto (tgt := 251) hx hb dX10_reaches_247 (by decide) ?_
              exact ze_z hx hb hr hlocks (by simp [bI_t, bI_f, y_reach, b1, Ne.symm b1, b2, Ne.symm b2, b3, b127, Ne.symm b127, b128, b129, Int32.not_le.mp b129]) dX10_reaches_251
          · refine lv_aload_n hx hb dX10_reaches_81 rfl (lv_at hl 3 rfl) ?_
            refine zg8_36 X hK hW m_1142 dX10_reaches_82 ?_
            refine lv_iload_n hx hb dX10_reaches_85 rfl (lv_at hl 4 rfl) ?_
            refine zan67 X hK hW (by omega) dX10_reaches_86 ?_
            refine lv_bipush (v := 108) hx hb dX10_reaches_87 (by decide) ?_
            refine lv_icmp_ne (tgt := 97) hx hb dX10_reaches_89 (by decide) (fun b145 => ?_) (fun b145 => ?_)
            · refine lv_aload_n hx hb dX10_reaches_97 rfl (lv_at hl 3 rfl) ?_
              refine zg8_36 X hK hW m_1142 dX10_reaches_98 ?_
              refine lv_iload_n hx hb dX10_reaches_101 rfl (lv_at hl 4 rfl) ?_
              refine zan67 X hK hW (by omega) dX10_reaches_102 ?_
              refine lv_bipush (v := 104) hx hb dX10_reaches_103 (by decide) ?_
              refine lv_icmp_ne (tgt := 122) hx hb dX10_reaches_105 (by decide) (fun b146 => ?_) (fun b146 => ?_)
              · refine lv_aload_n hx hb dX10_reaches_122 rfl (lv_at hl 3 rfl) ?_
                refine zg8_36 X hK hW m_1142 dX10_reaches_123 ?_
                refine lv_iload_n hx hb dX10_reaches_126 rfl (lv_at hl 4 rfl) ?_
                refine zan67 X hK hW (by omega) dX10_reaches_127 ?_
                refine lv_bipush (v := 114) hx hb dX10_reaches_128 (by decide) ?_
                refine lv_icmp_ne (tgt := 147) hx hb dX10_reaches_130 (by decide) (fun b147 => ?_) (fun b147 => ?_)
                · refine lv_aload_n hx hb dX10_reaches_147 rfl (lv_at hl 3 rfl) ?_
                  refine zg8_36 X hK hW m_1142 dX10_reaches_148 ?_
                  refine lv_iload_n hx hb dX10_reaches_151 rfl (lv_at hl 4 rfl) ?_
                  refine zan67 X hK hW (by omega) dX10_reaches_152 ?_
                  refine lv_bipush (v := 99) hx hb dX10_reaches_153 (by decide) ?_
                  refine lv_icmp_ne (tgt := 167) hx hb dX10_reaches_155 (by decide) (fun b148 => ?_) (fun b148 => ?_)
                  · refine lv_iconst (v := 0) hx hb dX10_reaches_167 (by decide) ?_
                    exact ze_z hx hb hr hlocks (by simp [bI_t, bI_f, y_reach, b1, Ne.symm b1, b2, Ne.symm b2, b3, b127, Ne.symm b127, b128, Ne.symm b128, b145, Ne.symm b145, b146, Ne.symm b146, b147, Ne.symm b147, b148, Ne.symm b148]) dX10_reaches_168
                  · refine lv_iload hx hb dX10_reaches_158 (lv_at hl 0 rfl) ?_
                    refine lv_if_eq (tgt := 167) hx hb dX10_reaches_160 (by decide) (fun _ => ?_) (fun h => absurd h (by decide))
                    refine lv_iconst (v := 0) hx hb dX10_reaches_167 (by decide) ?_
                    exact ze_z hx hb hr hlocks (by simp [bI_t, bI_f, y_reach, b1, Ne.symm b1, b2, Ne.symm b2, b3, b127, Ne.symm b127, b128, Ne.symm b128, b145, Ne.symm b145, b146, Ne.symm b146, b147, Ne.symm b147, b148]) dX10_reaches_168
                · refine lv_aload_n hx hb dX10_reaches_133 rfl (lv_at hl 3 rfl) ?_
                  refine lv_iload_n hx hb dX10_reaches_134 rfl (lv_at hl 5 rfl) ?_
                  refine lv_aload_n hx hb dX10_reaches_135 rfl (lv_at hl 3 rfl) ?_
                  refine zg8_33 X hK hW m_1139 dX10_reaches_136 ?_
                  refine lv_iload_n hx hb dX10_reaches_139 rfl (lv_at hl 4 rfl) ?_
                  refine zan64 X hK hW (by omega) dX10_reaches_140 ?_
                  refine zcallRV (As := [.int (nI u), .int (zA μ 64 0 f)]) (rest := []) X hml hK hW (ctX10_sharesRigger l D cy ad μ (nI u) (zA μ 64 0 f) hc hp) zmX10_sharesRigger (by decide) m_1366 (zrecv hK (hW 30 0 rfl (by decide)) rfl) ⟨Nat.le_of_ble_eq_true rfl, Nat.le_of_ble_eq_true rfl⟩ ⟨Nat.zero_le _, Nat.zero_le _⟩ rfl hl.1 rfl (Nat.le_of_ble_eq_true rfl) dX10_reaches_141 ?_
                  refine zb_ne (tgt := 163) hx hb dX10_reaches_144 (by decide) (fun b150 => ?_) (fun b150 => ?_)
                  · refine lv_iconst (v := 1) hx hb dX10_reaches_163 (by decide) ?_
                    refine lv_goto (tgt := 168) hx hb dX10_reaches_164 (by decide) ?_
                    exact ze_z hx hb hr hlocks (by simp [bI_t, bI_f, y_reach, b1, Ne.symm b1, b2, Ne.symm b2, b3, b127, Ne.symm b127, b128, Ne.symm b128, b145, Ne.symm b145, b146, Ne.symm b146, b147, b150]) dX10_reaches_168
                  · refine lv_aload_n hx hb dX10_reaches_147 rfl (lv_at hl 3 rfl) ?_
                    refine zg8_36 X hK hW m_1142 dX10_reaches_148 ?_
                    refine lv_iload_n hx hb dX10_reaches_151 rfl (lv_at hl 4 rfl) ?_
                    refine zan67 X hK hW (by omega) dX10_reaches_152 ?_
                    refine lv_bipush (v := 99) hx hb dX10_reaches_153 (by decide) ?_
                    refine lv_icmp_ne (tgt := 167) hx hb dX10_reaches_155 (by decide) (fun b151 => ?_) (fun b151 => ?_)
                    · refine lv_iconst (v := 0) hx hb dX10_reaches_167 (by decide) ?_
                      exact ze_z hx hb hr hlocks (by simp [bI_t, bI_f, y_reach, b1, Ne.symm b1, b2, Ne.symm b2, b3, b127, Ne.symm b127, b128, Ne.symm b128, b145, Ne.symm b145, b146, Ne.symm b146, b147, b150, b151, Ne.symm b151]) dX10_reaches_168
                    · refine lv_iload hx hb dX10_reaches_158 (lv_at hl 0 rfl) ?_
                      refine lv_if_eq (tgt := 167) hx hb dX10_reaches_160 (by decide) (fun _ => ?_) (fun h => absurd h (by decide))
                      refine lv_iconst (v := 0) hx hb dX10_reaches_167 (by decide) ?_
                      exact ze_z hx hb hr hlocks (absurd (b147.symm.trans b151) (by decide)) dX10_reaches_168
              · refine lv_aload_n hx hb dX10_reaches_108 rfl (lv_at hl 3 rfl) ?_
                refine lv_iload_n hx hb dX10_reaches_109 rfl (lv_at hl 5 rfl) ?_
                refine lv_aload_n hx hb dX10_reaches_110 rfl (lv_at hl 3 rfl) ?_
                refine zg8_33 X hK hW m_1139 dX10_reaches_111 ?_
                refine lv_iload_n hx hb dX10_reaches_114 rfl (lv_at hl 4 rfl) ?_
                refine zan64 X hK hW (by omega) dX10_reaches_115 ?_
                refine zcallRV (As := [.int (nI u), .int (zA μ 64 0 f)]) (rest := []) X hml hK hW (ctX10_sharesHook l D cy ad μ (nI u) (zA μ 64 0 f) hc hp) zmX10_sharesHook (by decide) m_1362 (zrecv hK (hW 30 0 rfl (by decide)) rfl) ⟨Nat.le_of_ble_eq_true rfl, Nat.le_of_ble_eq_true rfl⟩ ⟨Nat.zero_le _, Nat.zero_le _⟩ rfl hl.1 rfl (Nat.le_of_ble_eq_true rfl) dX10_reaches_116 ?_
                refine zb_ne (tgt := 163) hx hb dX10_reaches_119 (by decide) (fun b153 => ?_) (fun b153 => ?_)
                · refine lv_iconst (v := 1) hx hb dX10_reaches_163 (by decide) ?_
                  refine lv_goto (tgt := 168) hx hb dX10_reaches_164 (by decide) ?_
                  exact ze_z hx hb hr hlocks (by simp [bI_t, bI_f, y_reach, b1, Ne.symm b1, b2, Ne.symm b2, b3, b127, Ne.symm b127, b128, Ne.symm b128, b145, Ne.symm b145, b146, b153]) dX10_reaches_168
                · refine lv_aload_n hx hb dX10_reaches_122 rfl (lv_at hl 3 rfl) ?_
                  refine zg8_36 X hK hW m_1142 dX10_reaches_123 ?_
                  refine lv_iload_n hx hb dX10_reaches_126 rfl (lv_at hl 4 rfl) ?_
                  refine zan67 X hK hW (by omega) dX10_reaches_127 ?_
                  refine lv_bipush (v := 114) hx hb dX10_reaches_128 (by decide) ?_
                  refine lv_icmp_ne (tgt := 147) hx hb dX10_reaches_130 (by decide) (fun b154 => ?_) (fun b154 => ?_)
                  · refine lv_aload_n hx hb dX10_reaches_147 rfl (lv_at hl 3 rfl) ?_
                    refine zg8_36 X hK hW m_1142 dX10_reaches_148 ?_
                    refine lv_iload_n hx hb dX10_reaches_151 rfl (lv_at hl 4 rfl) ?_
                    refine zan67 X hK hW (by omega) dX10_reaches_152 ?_
                    refine lv_bipush (v := 99) hx hb dX10_reaches_153 (by decide) ?_
                    refine lv_icmp_ne (tgt := 167) hx hb dX10_reaches_155 (by decide) (fun b155 => ?_) (fun b155 => ?_)
                    · refine lv_iconst (v := 0) hx hb dX10_reaches_167 (by decide) ?_
                      exact ze_z hx hb hr hlocks (by simp [bI_t, bI_f, y_reach, b1, Ne.symm b1, b2, Ne.symm b2, b3, b127, Ne.symm b127, b128, Ne.symm b128, b145, Ne.symm b145, b146, b153, b154, Ne.symm b154, b155, Ne.symm b155]) dX10_reaches_168
                    · refine lv_iload hx hb dX10_reaches_158 (lv_at hl 0 rfl) ?_
                      refine lv_if_eq (tgt := 167) hx hb dX10_reaches_160 (by decide) (fun _ => ?_) (fun h => absurd h (by decide))
                      refine lv_iconst (v := 0) hx hb dX10_reaches_167 (by decide) ?_
                      exact ze_z hx hb hr hlocks (absurd (b146.symm.trans b155) (by decide)) dX10_reaches_168
                  · refine lv_aload_n hx hb dX10_reaches_133 rfl (lv_at hl 3 rfl) ?_
                    refine lv_iload_n hx hb dX10_reaches_134 rfl (lv_at hl 5 rfl) ?_
                    refine lv_aload_n hx hb dX10_reaches_135 rfl (lv_at hl 3 rfl) ?_
                    refine zg8_33 X hK hW m_1139 dX10_reaches_136 ?_
                    refine lv_iload_n hx hb dX10_reaches_139 rfl (lv_at hl 4 rfl) ?_
                    refine zan64 X hK hW (by omega) dX10_reaches_140 ?_
                    refine zcallRV (As := [.int (nI u), .int (zA μ 64 0 f)]) (rest := []) X hml hK hW (ctX10_sharesRigger l D cy ad μ (nI u) (zA μ 64 0 f) hc hp) zmX10_sharesRigger (by decide) m_1366 (zrecv hK (hW 30 0 rfl (by decide)) rfl) ⟨Nat.le_of_ble_eq_true rfl, Nat.le_of_ble_eq_true rfl⟩ ⟨Nat.zero_le _, Nat.zero_le _⟩ rfl hl.1 rfl (Nat.le_of_ble_eq_true rfl) dX10_reaches_141 ?_
                    refine zb_ne (tgt := 163) hx hb dX10_reaches_144 (by decide) (fun b157 => ?_) (fun b157 => ?_)
                    · refine lv_iconst (v := 1) hx hb dX10_reaches_163 (by decide) ?_
                      refine lv_goto (tgt := 168) hx hb dX10_reaches_164 (by decide) ?_
                      exact ze_z hx hb hr hlocks (absurd (b146.symm.trans b154) (by decide)) dX10_reaches_168
                    · refine lv_aload_n hx hb dX10_reaches_147 rfl (lv_at hl 3 rfl) ?_
                      refine zg8_36 X hK hW m_1142 dX10_reaches_148 ?_
                      refine lv_iload_n hx hb dX10_reaches_151 rfl (lv_at hl 4 rfl) ?_
                      refine zan67 X hK hW (by omega) dX10_reaches_152 ?_
                      refine lv_bipush (v := 99) hx hb dX10_reaches_153 (by decide) ?_
                      refine lv_icmp_ne (tgt := 167) hx hb dX10_reaches_155 (by decide) (fun b158 => ?_) (fun b158 => ?_)
                      · refine lv_iconst (v := 0) hx hb dX10_reaches_167 (by decide) ?_
                        exact ze_z hx hb hr hlocks (absurd (b146.symm.trans b154) (by decide)) dX10_reaches_168
                      · refine lv_iload hx hb dX10_reaches_158 (lv_at hl 0 rfl) ?_
                        refine lv_if_eq (tgt := 167) hx hb dX10_reaches_160 (by decide) (fun _ => ?_) (fun h => absurd h (by decide))
                        refine lv_iconst (v := 0) hx hb dX10_reaches_167 (by decide) ?_
                        exact ze_z hx hb hr hlocks (absurd (b146.symm.trans b154) (by decide)) dX10_reaches_168
            · refine lv_iload hx hb dX10_reaches_92 (lv_at hl 1 rfl) ?_
              refine lv_if_ne (tgt := 163) hx hb dX10_reaches_94 (by decide) (fun _ => ?_) (fun h => absurd h (by decide))
              refine lv_iconst (v := 1) hx hb dX10_reaches_163 (by decide) ?_
              refine lv_goto (tgt := 168) hx hb dX10_reaches_164 (by decide) ?_
              exact ze_z hx hb hr hlocks (by simp [bI_t, bI_f, y_reach, b1, Ne.symm b1, b2, Ne.symm b2, b3, b127, Ne.symm b127, b128, Ne.symm b128, b145]) dX10_reaches_168
        · refine lv_iconst (v := 1) hx hb dX10_reaches_63 (by decide) ?_
          refine lv_goto (tgt := 68) hx hb dX10_reaches_64 (by decide) ?_
          refine lv_istore (lv' := [(5, .int 1), (4, .int 1), (3, .int (zA μ 63 0 f)), (0, .ref (ad 30 0)), (1, .int (nI f)), (2, .int (nI u))]) hx hb dX10_reaches_68 hl (by decide) rfl (fun ls hl => ?_)
          refine lv_aload_n hx hb dX10_reaches_70 rfl (lv_at hl 3 rfl) ?_
          refine zg8_36 X hK hW m_1142 dX10_reaches_71 ?_
          refine lv_iload_n hx hb dX10_reaches_74 rfl (lv_at hl 4 rfl) ?_
          refine zan67 X hK hW (by omega) dX10_reaches_75 ?_
          refine lv_bipush (v := 45) hx hb dX10_reaches_76 (by decide) ?_
          refine lv_icmp_eq (tgt := 169) hx hb dX10_reaches_78 (by decide) (fun b161 => ?_) (fun b161 => ?_)
          · refine lv_aload_n hx hb dX10_reaches_169 rfl (lv_at hl 3 rfl) ?_
            refine zg8_35 X hK hW m_1141 dX10_reaches_170 ?_
            refine lv_iload_n hx hb dX10_reaches_173 rfl (lv_at hl 4 rfl) ?_
            refine zan66 X hK hW (by omega) dX10_reaches_174 ?_
            refine lv_if_le (tgt := 183) hx hb dX10_reaches_175 (by decide) (fun b162 => ?_) (fun b162 => ?_)
            · refine lv_aload_n hx hb dX10_reaches_183 rfl (lv_at hl 3 rfl) ?_
              refine zg8_35 X hK hW m_1141 dX10_reaches_184 ?_
              refine lv_iload_n hx hb dX10_reaches_187 rfl (lv_at hl 4 rfl) ?_
              refine zan66 X hK hW (by omega) dX10_reaches_188 ?_
              refine lv_iconst (v := 1) hx hb dX10_reaches_189 (by decide) ?_
              refine lv_icmp_le (tgt := 207) hx hb dX10_reaches_190 (by decide) (fun b163 => ?_) (fun b163 => ?_)
              · refine lv_aload_n hx hb dX10_reaches_207 rfl (lv_at hl 3 rfl) ?_
                refine zg8_35 X hK hW m_1141 dX10_reaches_208 ?_
                refine lv_iload_n hx hb dX10_reaches_211 rfl (lv_at hl 4 rfl) ?_
                refine zan66 X hK hW (by omega) dX10_reaches_212 ?_
                refine lv_iconst (v := 2) hx hb dX10_reaches_213 (by decide) ?_
                refine lv_icmp_le (tgt := 231) hx hb dX10_reaches_214 (by decide) (fun b164 => ?_) (fun b164 => ?_)
                · refine lv_aload_n hx hb dX10_reaches_231 rfl (lv_at hl 3 rfl) ?_
                  refine zg8_35 X hK hW m_1141 dX10_reaches_232 ?_
                  refine lv_iload_n hx hb dX10_reaches_235 rfl (lv_at hl 4 rfl) ?_
                  refine zan66 X hK hW (by omega) dX10_reaches_236 ?_
                  refine lv_iconst (v := 3) hx hb dX10_reaches_237 (by decide) ?_
                  refine lv_icmp_le (tgt := 250) hx hb dX10_reaches_238 (by decide) (fun b165 => ?_) (fun b165 => ?_)
                  · refine lv_iconst (v := 0) hx hb dX10_reaches_250 (by decide) ?_
                    exact ze_z hx hb hr hlocks (by simp [bI_t, bI_f, y_reach, b1, Ne.symm b1, b2, Ne.symm b2, b3, b127, b161, b162, Int32.not_lt.mpr b162, b163, Int32.not_lt.mpr b163, b164, Int32.not_lt.mpr b164, b165, Int32.not_lt.mpr b165]) dX10_reaches_251
                  · refine lv_iload hx hb dX10_reaches_241 (lv_at hl 0 rfl) ?_
                    refine lv_if_eq (tgt := 250) hx hb dX10_reaches_243 (by decide) (fun h => absurd h (by decide)) (fun _ => ?_)
                    refine lv_iconst (v := 1) hx hb dX10_reaches_246 (by decide) ?_
                    refine lv_goto (tgt := 251) hx hb dX10_reaches_247 (by decide) ?_
                    exact ze_z hx hb hr hlocks (by simp [bI_t, bI_f, y_reach, b1, Ne.symm b1, b2, Ne.symm b2, b3, b127, b161, b162, Int32.not_lt.mpr b162, b163, Int32.not_lt.mpr b163, b164, Int32.not_lt.mpr b164, b165, Int32.not_le.mp b165]) dX10_reaches_251
                · refine lv_aload_n hx hb dX10_reaches_217 rfl (lv_at hl 3 rfl) ?_
                  refine lv_iload_n hx hb dX10_reaches_218 rfl (lv_at hl 5 rfl) ?_
                  refine lv_aload_n hx hb dX10_reaches_219 rfl (lv_at hl 3 rfl) ?_
                  refine zg8_33 X hK hW m_1139 dX10_reaches_220 ?_
                  refine lv_iload_n hx hb dX10_reaches_223 rfl (lv_at hl 4 rfl) ?_
                  refine zan64 X hK hW (by omega) dX10_reaches_224 ?_
                  refine zcallRV (As := [.int (nI u), .int (zA μ 64 0 f)]) (rest := []) X hml hK hW (ctX10_sharesRigger l D cy ad μ (nI u) (zA μ 64 0 f) hc hp) zmX10_sharesRigger (by decide) m_1366 (zrecv hK (hW 30 0 rfl (by decide)) rfl) ⟨Nat.le_of_ble_eq_true rfl, Nat.le_of_ble_eq_true rfl⟩ ⟨Nat.zero_le _, Nat.zero_le _⟩ rfl hl.1 rfl (Nat.le_of_ble_eq_true rfl) dX10_reaches_225 ?_
                  refine zb_ne (tgt := 246) hx hb dX10_reaches_228 (by decide) (fun b167 => ?_) (fun b167 => ?_)
                  · refine lv_iconst (v := 1) hx hb dX10_reaches_246 (by decide) ?_
                    refine lv_goto (tgt := 251) hx hb dX10_reaches_247 (by decide) ?_
                    exact ze_z hx hb hr hlocks (by simp [bI_t, bI_f, y_reach, b1, Ne.symm b1, b2, Ne.symm b2, b3, b127, b161, b162, Int32.not_lt.mpr b162, b163, Int32.not_lt.mpr b163, b164, Int32.not_le.mp b164, b167]) dX10_reaches_251
                  · refine lv_aload_n hx hb dX10_reaches_231 rfl (lv_at hl 3 rfl) ?_
                    refine zg8_35 X hK hW m_1141 dX10_reaches_232 ?_
                    refine lv_iload_n hx hb dX10_reaches_235 rfl (lv_at hl 4 rfl) ?_
                    refine zan66 X hK hW (by omega) dX10_reaches_236 ?_
                    refine lv_iconst (v := 3) hx hb dX10_reaches_237 (by decide) ?_
                    refine lv_icmp_le (tgt := 250) hx hb dX10_reaches_238 (by decide) (fun b168 => ?_) (fun b168 => ?_)
                    · refine lv_iconst (v := 0) hx hb dX10_reaches_250 (by decide) ?_
                      exact ze_z hx hb hr hlocks (by simp [bI_t, bI_f, y_reach, b1, Ne.symm b1, b2, Ne.symm b2, b3, b127, b161, b162, Int32.not_lt.mpr b162, b163, Int32.not_lt.mpr b163, b164, Int32.not_le.mp b164, b167, b168, Int32.not_lt.mpr b168]) dX10_reaches_251
                    · refine lv_iload hx hb dX10_reaches_241 (lv_at hl 0 rfl) ?_
                      refine lv_if_eq (tgt := 250) hx hb dX10_reaches_243 (by decide) (fun h => absurd h (by decide)) (fun _ => ?_)
                      refine lv_iconst (v := 1) hx hb dX10_reaches_246 (by decide) ?_
                      refine lv_goto (tgt := 251) hx hb dX10_reaches_247 (by decide) ?_
                      exact ze_z hx hb hr hlocks (by simp [bI_t, bI_f, y_reach, b1, Ne.symm b1, b2, Ne.symm b2, b3, b127, b161, b162, Int32.not_lt.mpr b162, b163, Int32.not_lt.mpr b163, b164, Int32.not_le.mp b164, b167, b168, Int32.not_le.mp b168]) dX10_reaches_251
              · refine lv_aload_n hx hb dX10_reaches_193 rfl (lv_at hl 3 rfl) ?_
                refine lv_iload_n hx hb dX10_reaches_194 rfl (lv_at hl 5 rfl) ?_
                refine lv_aload_n hx hb dX10_reaches_195 rfl (lv_at hl 3 rfl) ?_
                refine zg8_33 X hK hW m_1139 dX10_reaches_196 ?_
                refine lv_iload_n hx hb dX10_reaches_199 rfl (lv_at hl 4 rfl) ?_
                refine zan64 X hK hW (by omega) dX10_reaches_200 ?_
                refine zcallRV (As := [.int (nI u), .int (zA μ 64 0 f)]) (rest := []) X hml hK hW (ctX10_sharesHook l D cy ad μ (nI u) (zA μ 64 0 f) hc hp) zmX10_sharesHook (by decide) m_1362 (zrecv hK (hW 30 0 rfl (by decide)) rfl) ⟨Nat.le_of_ble_eq_true rfl, Nat.le_of_ble_eq_true rfl⟩ ⟨Nat.zero_le _, Nat.zero_le _⟩ rfl hl.1 rfl (Nat.le_of_ble_eq_true rfl) dX10_reaches_201 ?_
                refine zb_ne (tgt := 246) hx hb dX10_reaches_204 (by decide) (fun b170 => ?_) (fun b170 => ?_)
                · refine lv_iconst (v := 1) hx hb dX10_reaches_246 (by decide) ?_
                  refine lv_goto (tgt := 251) hx hb dX10_reaches_247 (by decide) ?_
                  exact ze_z hx hb hr hlocks (by simp [bI_t, bI_f, y_reach, b1, Ne.symm b1, b2, Ne.symm b2, b3, b127, b161, b162, Int32.not_lt.mpr b162, b163, Int32.not_le.mp b163, b170]) dX10_reaches_251
                · refine lv_aload_n hx hb dX10_reaches_207 rfl (lv_at hl 3 rfl) ?_
                  refine zg8_35 X hK hW m_1141 dX10_reaches_208 ?_
                  refine lv_iload_n hx hb dX10_reaches_211 rfl (lv_at hl 4 rfl) ?_
                  refine zan66 X hK hW (by omega) dX10_reaches_212 ?_
                  refine lv_iconst (v := 2) hx hb dX10_reaches_213 (by decide) ?_
                  refine lv_icmp_le (tgt := 231) hx hb dX10_reaches_214 (by decide) (fun b171 => ?_) (fun b171 => ?_)
                  · refine lv_aload_n hx hb dX10_reaches_231 rfl (lv_at hl 3 rfl) ?_
                    refine zg8_35 X hK hW m_1141 dX10_reaches_232 ?_
                    refine lv_iload_n hx hb dX10_reaches_235 rfl (lv_at hl 4 rfl) ?_
                    refine zan66 X hK hW (by omega) dX10_reaches_236 ?_
                    refine lv_iconst (v := 3) hx hb dX10_reaches_237 (by decide) ?_
                    refine lv_icmp_le (tgt := 250) hx hb dX10_reaches_238 (by decide) (fun b172 => ?_) (fun b172 => ?_)
                    · refine lv_iconst (v := 0) hx hb dX10_reaches_250 (by decide) ?_
                      exact ze_z hx hb hr hlocks (by simp [bI_t, bI_f, y_reach, b1, Ne.symm b1, b2, Ne.symm b2, b3, b127, b161, b162, Int32.not_lt.mpr b162, b163, Int32.not_le.mp b163, b170, b171, Int32.not_lt.mpr b171, b172, Int32.not_lt.mpr b172]) dX10_reaches_251
                    · refine lv_iload hx hb dX10_reaches_241 (lv_at hl 0 rfl) ?_
                      refine lv_if_eq (tgt := 250) hx hb dX10_reaches_243 (by decide) (fun h => absurd h (by decide)) (fun _ => ?_)
                      refine lv_iconst (v := 1) hx hb dX10_reaches_246 (by decide) ?_
                      refine lv_goto (tgt := 251) hx hb dX10_reaches_247 (by decide) ?_
                      exact ze_z hx hb hr hlocks (by simp [bI_t, bI_f, y_reach, b1, Ne.symm b1, b2, Ne.symm b2, b3, b127, b161, b162, Int32.not_lt.mpr b162, b163, Int32.not_le.mp b163, b170, b171, Int32.not_lt.mpr b171, b172, Int32.not_le.mp b172]) dX10_reaches_251
                  · refine lv_aload_n hx hb dX10_reaches_217 rfl (lv_at hl 3 rfl) ?_
                    refine lv_iload_n hx hb dX10_reaches_218 rfl (lv_at hl 5 rfl) ?_
                    refine lv_aload_n hx hb dX10_reaches_219 rfl (lv_at hl 3 rfl) ?_
                    refine zg8_33 X hK hW m_1139 dX10_reaches_220 ?_
                    refine lv_iload_n hx hb dX10_reaches_223 rfl (lv_at hl 4 rfl) ?_
                    refine zan64 X hK hW (by omega) dX10_reaches_224 ?_
                    refine zcallRV (As := [.int (nI u), .int (zA μ 64 0 f)]) (rest := []) X hml hK hW (ctX10_sharesRigger l D cy ad μ (nI u) (zA μ 64 0 f) hc hp) zmX10_sharesRigger (by decide) m_1366 (zrecv hK (hW 30 0 rfl (by decide)) rfl) ⟨Nat.le_of_ble_eq_true rfl, Nat.le_of_ble_eq_true rfl⟩ ⟨Nat.zero_le _, Nat.zero_le _⟩ rfl hl.1 rfl (Nat.le_of_ble_eq_true rfl) dX10_reaches_225 ?_
                    refine zb_ne (tgt := 246) hx hb dX10_reaches_228 (by decide) (fun b174 => ?_) (fun b174 => ?_)
                    · refine lv_iconst (v := 1) hx hb dX10_reaches_246 (by decide) ?_
                      refine lv_goto (tgt := 251) hx hb dX10_reaches_247 (by decide) ?_
                      exact ze_z hx hb hr hlocks (by simp [bI_t, bI_f, y_reach, b1, Ne.symm b1, b2, Ne.symm b2, b3, b127, b161, b162, Int32.not_lt.mpr b162, b163, Int32.not_le.mp b163, b170, b171, Int32.not_le.mp b171, b174]) dX10_reaches_251
                    · refine lv_aload_n hx hb dX10_reaches_231 rfl (lv_at hl 3 rfl) ?_
                      refine zg8_35 X hK hW m_1141 dX10_reaches_232 ?_
                      refine lv_iload_n hx hb dX10_reaches_235 rfl (lv_at hl 4 rfl) ?_
                      refine zan66 X hK hW (by omega) dX10_reaches_236 ?_
                      refine lv_iconst (v := 3) hx hb dX10_reaches_237 (by decide) ?_
                      refine lv_icmp_le (tgt := 250) hx hb dX10_reaches_238 (by decide) (fun b175 => ?_) (fun b175 => ?_)
                      · refine lv_iconst (v := 0) hx hb dX10_reaches_250 (by decide) ?_
                        exact ze_z hx hb hr hlocks (by simp [bI_t, bI_f, y_reach, b1, Ne.symm b1, b2, Ne.symm b2, b3, b127, b161, b162, Int32.not_lt.mpr b162, b163, Int32.not_le.mp b163, b170, b171, Int32.not_le.mp b171, b174, b175, Int32.not_lt.mpr b175]) dX10_reaches_251
                      · refine lv_iload hx hb dX10_reaches_241 (lv_at hl 0 rfl) ?_
                        refine lv_if_eq (tgt := 250) hx hb dX10_reaches_243 (by decide) (fun h => absurd h (by decide)) (fun _ => ?_)
                        refine lv_iconst (v := 1) hx hb dX10_reaches_246 (by decide) ?_
                        refine lv_goto (tgt := 251) hx hb dX10_reaches_247 (by decide) ?_
                        exact ze_z hx hb hr hlocks (by simp [bI_t, bI_f, y_reach, b1, Ne.symm b1, b2, Ne.symm b2, b3, b127, b161, b162, Int32.not_lt.mpr b162, b163, Int32.not_le.mp b163, b170, b171, Int32.not_le.mp b171, b174, b175, Int32.not_le.mp b175]) dX10_reaches_251
            · refine lv_iload hx hb dX10_reaches_178 (lv_at hl 1 rfl) ?_
              refine lv_if_ne (tgt := 246) hx hb dX10_reaches_180 (by decide) (fun _ => ?_) (fun h => absurd h (by decide))
              refine lv_iconst (v := 1) hx hb dX10_reaches_246 (by decide) ?_
              refine lv_goto (tgt := 251) hx hb dX10_reaches_247 (by decide) ?_
              exact ze_z hx hb hr hlocks (by simp [bI_t, bI_f, y_reach, b1, Ne.symm b1, b2, Ne.symm b2, b3, b127, b161, b162, Int32.not_le.mp b162]) dX10_reaches_251
          · refine lv_aload_n hx hb dX10_reaches_81 rfl (lv_at hl 3 rfl) ?_
            refine zg8_36 X hK hW m_1142 dX10_reaches_82 ?_
            refine lv_iload_n hx hb dX10_reaches_85 rfl (lv_at hl 4 rfl) ?_
            refine zan67 X hK hW (by omega) dX10_reaches_86 ?_
            refine lv_bipush (v := 108) hx hb dX10_reaches_87 (by decide) ?_
            refine lv_icmp_ne (tgt := 97) hx hb dX10_reaches_89 (by decide) (fun b178 => ?_) (fun b178 => ?_)
            · refine lv_aload_n hx hb dX10_reaches_97 rfl (lv_at hl 3 rfl) ?_
              refine zg8_36 X hK hW m_1142 dX10_reaches_98 ?_
              refine lv_iload_n hx hb dX10_reaches_101 rfl (lv_at hl 4 rfl) ?_
              refine zan67 X hK hW (by omega) dX10_reaches_102 ?_
              refine lv_bipush (v := 104) hx hb dX10_reaches_103 (by decide) ?_
              refine lv_icmp_ne (tgt := 122) hx hb dX10_reaches_105 (by decide) (fun b179 => ?_) (fun b179 => ?_)
              · refine lv_aload_n hx hb dX10_reaches_122 rfl (lv_at hl 3 rfl) ?_
                refine zg8_36 X hK hW m_1142 dX10_reaches_123 ?_
                refine lv_iload_n hx hb dX10_reaches_126 rfl (lv_at hl 4 rfl) ?_
                refine zan67 X hK hW (by omega) dX10_reaches_127 ?_
                refine lv_bipush (v := 114) hx hb dX10_reaches_128 (by decide) ?_
                refine lv_icmp_ne (tgt := 147) hx hb dX10_reaches_130 (by decide) (fun b180 => ?_) (fun b180 => ?_)
                · refine lv_aload_n hx hb dX10_reaches_147 rfl (lv_at hl 3 rfl) ?_
                  refine zg8_36 X hK hW m_1142 dX10_reaches_148 ?_
                  refine lv_iload_n hx hb dX10_reaches_151 rfl (lv_at hl 4 rfl) ?_
                  refine zan67 X hK hW (by omega) dX10_reaches_152 ?_
                  refine lv_bipush (v := 99) hx hb dX10_reaches_153 (by decide) ?_
                  refine lv_icmp_ne (tgt := 167) hx hb dX10_reaches_155 (by decide) (fun b181 => ?_) (fun b181 => ?_)
                  · refine lv_iconst (v := 0) hx hb dX10_reaches_167 (by decide) ?_
                    exact ze_z hx hb hr hlocks (by simp [bI_t, bI_f, y_reach, b1, Ne.symm b1, b2, Ne.symm b2, b3, b127, b161, Ne.symm b161, b178, Ne.symm b178, b179, Ne.symm b179, b180, Ne.symm b180, b181, Ne.symm b181]) dX10_reaches_168
                  · refine lv_iload hx hb dX10_reaches_158 (lv_at hl 0 rfl) ?_
                    refine lv_if_eq (tgt := 167) hx hb dX10_reaches_160 (by decide) (fun h => absurd h (by decide)) (fun _ => ?_)
                    refine lv_iconst (v := 1) hx hb dX10_reaches_163 (by decide) ?_
                    refine lv_goto (tgt := 168) hx hb dX10_reaches_164 (by decide) ?_
                    exact ze_z hx hb hr hlocks (by simp [bI_t, bI_f, y_reach, b1, Ne.symm b1, b2, Ne.symm b2, b3, b127, b161, Ne.symm b161, b178, Ne.symm b178, b179, Ne.symm b179, b180, Ne.symm b180, b181]) dX10_reaches_168
                · refine lv_aload_n hx hb dX10_reaches_133 rfl (lv_at hl 3 rfl) ?_
                  refine lv_iload_n hx hb dX10_reaches_134 rfl (lv_at hl 5 rfl) ?_
                  refine lv_aload_n hx hb dX10_reaches_135 rfl (lv_at hl 3 rfl) ?_
                  refine zg8_33 X hK hW m_1139 dX10_reaches_136 ?_
                  refine lv_iload_n hx hb dX10_reaches_139 rfl (lv_at hl 4 rfl) ?_
                  refine zan64 X hK hW (by omega) dX10_reaches_140 ?_
                  refine zcallRV (As := [.int (nI u), .int (zA μ 64 0 f)]) (rest := []) X hml hK hW (ctX10_sharesRigger l D cy ad μ (nI u) (zA μ 64 0 f) hc hp) zmX10_sharesRigger (by decide) m_1366 (zrecv hK (hW 30 0 rfl (by decide)) rfl) ⟨Nat.le_of_ble_eq_true rfl, Nat.le_of_ble_eq_true rfl⟩ ⟨Nat.zero_le _, Nat.zero_le _⟩ rfl hl.1 rfl (Nat.le_of_ble_eq_true rfl) dX10_reaches_141 ?_
                  refine zb_ne (tgt := 163) hx hb dX10_reaches_144 (by decide) (fun b183 => ?_) (fun b183 => ?_)
                  · refine lv_iconst (v := 1) hx hb dX10_reaches_163 (by decide) ?_
                    refine lv_goto (tgt := 168) hx hb dX10_reaches_164 (by decide) ?_
                    exact ze_z hx hb hr hlocks (by simp [bI_t, bI_f, y_reach, b1, Ne.symm b1, b2, Ne.symm b2, b3, b127, b161, Ne.symm b161, b178, Ne.symm b178, b179, Ne.symm b179, b180, b183]) dX10_reaches_168
                  · refine lv_aload_n hx hb dX10_reaches_147 rfl (lv_at hl 3 rfl) ?_
                    refine zg8_36 X hK hW m_1142 dX10_reaches_148 ?_
                    refine lv_iload_n hx hb dX10_reaches_151 rfl (lv_at hl 4 rfl) ?_
                    refine zan67 X hK hW (by omega) dX10_reaches_152 ?_
                    refine lv_bipush (v := 99) hx hb dX10_reaches_153 (by decide) ?_
                    refine lv_icmp_ne (tgt := 167) hx hb dX10_reaches_155 (by decide) (fun b184 => ?_) (fun b184 => ?_)
                    · refine lv_iconst (v := 0) hx hb dX10_reaches_167 (by decide) ?_
                      exact ze_z hx hb hr hlocks (by simp [bI_t, bI_f, y_reach, b1, Ne.symm b1, b2, Ne.symm b2, b3, b127, b161, Ne.symm b161, b178, Ne.symm b178, b179, Ne.symm b179, b180, b183, b184, Ne.symm b184]) dX10_reaches_168
                    · refine lv_iload hx hb dX10_reaches_158 (lv_at hl 0 rfl) ?_
                      refine lv_if_eq (tgt := 167) hx hb dX10_reaches_160 (by decide) (fun h => absurd h (by decide)) (fun _ => ?_)
                      refine lv_iconst (v := 1) hx hb dX10_reaches_163 (by decide) ?_
                      refine lv_goto (tgt := 168) hx hb dX10_reaches_164 (by decide) ?_
                      exact ze_z hx hb hr hlocks (absurd (b180.symm.trans b184) (by decide)) dX10_reaches_168
              · refine lv_aload_n hx hb dX10_reaches_108 rfl (lv_at hl 3 rfl) ?_
                refine lv_iload_n hx hb dX10_reaches_109 rfl (lv_at hl 5 rfl) ?_
                refine lv_aload_n hx hb dX10_reaches_110 rfl (lv_at hl 3 rfl) ?_
                refine zg8_33 X hK hW m_1139 dX10_reaches_111 ?_
                refine lv_iload_n hx hb dX10_reaches_114 rfl (lv_at hl 4 rfl) ?_
                refine zan64 X hK hW (by omega) dX10_reaches_115 ?_
                refine zcallRV (As := [.int (nI u), .int (zA μ 64 0 f)]) (rest := []) X hml hK hW (ctX10_sharesHook l D cy ad μ (nI u) (zA μ 64 0 f) hc hp) zmX10_sharesHook (by decide) m_1362 (zrecv hK (hW 30 0 rfl (by decide)) rfl) ⟨Nat.le_of_ble_eq_true rfl, Nat.le_of_ble_eq_true rfl⟩ ⟨Nat.zero_le _, Nat.zero_le _⟩ rfl hl.1 rfl (Nat.le_of_ble_eq_true rfl) dX10_reaches_116 ?_
                refine zb_ne (tgt := 163) hx hb dX10_reaches_119 (by decide) (fun b186 => ?_) (fun b186 => ?_)
                · refine lv_iconst (v := 1) hx hb dX10_reaches_163 (by decide) ?_
                  refine lv_goto (tgt := 168) hx hb dX10_reaches_164 (by decide) ?_
                  exact ze_z hx hb hr hlocks (by simp [bI_t, bI_f, y_reach, b1, Ne.symm b1, b2, Ne.symm b2, b3, b127, b161, Ne.symm b161, b178, Ne.symm b178, b179, b186]) dX10_reaches_168
                · refine lv_aload_n hx hb dX10_reaches_122 rfl (lv_at hl 3 rfl) ?_
                  refine zg8_36 X hK hW m_1142 dX10_reaches_123 ?_
                  refine lv_iload_n hx hb dX10_reaches_126 rfl (lv_at hl 4 rfl) ?_
                  refine zan67 X hK hW (by omega) dX10_reaches_127 ?_
                  refine lv_bipush (v := 114) hx hb dX10_reaches_128 (by decide) ?_
                  refine lv_icmp_ne (tgt := 147) hx hb dX10_reaches_130 (by decide) (fun b187 => ?_) (fun b187 => ?_)
                  · refine lv_aload_n hx hb dX10_reaches_147 rfl (lv_at hl 3 rfl) ?_
                    refine zg8_36 X hK hW m_1142 dX10_reaches_148 ?_
                    refine lv_iload_n hx hb dX10_reaches_151 rfl (lv_at hl 4 rfl) ?_
                    refine zan67 X hK hW (by omega) dX10_reaches_152 ?_
                    refine lv_bipush (v := 99) hx hb dX10_reaches_153 (by decide) ?_
                    refine lv_icmp_ne (tgt := 167) hx hb dX10_reaches_155 (by decide) (fun b188 => ?_) (fun b188 => ?_)
                    · refine lv_iconst (v := 0) hx hb dX10_reaches_167 (by decide) ?_
                      exact ze_z hx hb hr hlocks (by simp [bI_t, bI_f, y_reach, b1, Ne.symm b1, b2, Ne.symm b2, b3, b127, b161, Ne.symm b161, b178, Ne.symm b178, b179, b186, b187, Ne.symm b187, b188, Ne.symm b188]) dX10_reaches_168
                    · refine lv_iload hx hb dX10_reaches_158 (lv_at hl 0 rfl) ?_
                      refine lv_if_eq (tgt := 167) hx hb dX10_reaches_160 (by decide) (fun h => absurd h (by decide)) (fun _ => ?_)
                      refine lv_iconst (v := 1) hx hb dX10_reaches_163 (by decide) ?_
                      refine lv_goto (tgt := 168) hx hb dX10_reaches_164 (by decide) ?_
                      exact ze_z hx hb hr hlocks (absurd (b179.symm.trans b188) (by decide)) dX10_reaches_168
                  · refine lv_aload_n hx hb dX10_reaches_133 rfl (lv_at hl 3 rfl) ?_
                    refine lv_iload_n hx hb dX10_reaches_134 rfl (lv_at hl 5 rfl) ?_
                    refine lv_aload_n hx hb dX10_reaches_135 rfl (lv_at hl 3 rfl) ?_
                    refine zg8_33 X hK hW m_1139 dX10_reaches_136 ?_
                    refine lv_iload_n hx hb dX10_reaches_139 rfl (lv_at hl 4 rfl) ?_
                    refine zan64 X hK hW (by omega) dX10_reaches_140 ?_
                    refine zcallRV (As := [.int (nI u), .int (zA μ 64 0 f)]) (rest := []) X hml hK hW (ctX10_sharesRigger l D cy ad μ (nI u) (zA μ 64 0 f) hc hp) zmX10_sharesRigger (by decide) m_1366 (zrecv hK (hW 30 0 rfl (by decide)) rfl) ⟨Nat.le_of_ble_eq_true rfl, Nat.le_of_ble_eq_true rfl⟩ ⟨Nat.zero_le _, Nat.zero_le _⟩ rfl hl.1 rfl (Nat.le_of_ble_eq_true rfl) dX10_reaches_141 ?_
                    refine zb_ne (tgt := 163) hx hb dX10_reaches_144 (by decide) (fun b190 => ?_) (fun b190 => ?_)
                    · refine lv_iconst (v := 1) hx hb dX10_reaches_163 (by decide) ?_
                      refine lv_goto (tgt := 168) hx hb dX10_reaches_164 (by decide) ?_
                      exact ze_z hx hb hr hlocks (absurd (b179.symm.trans b187) (by decide)) dX10_reaches_168
                    · refine lv_aload_n hx hb dX10_reaches_147 rfl (lv_at hl 3 rfl) ?_
                      refine zg8_36 X hK hW m_1142 dX10_reaches_148 ?_
                      refine lv_iload_n hx hb dX10_reaches_151 rfl (lv_at hl 4 rfl) ?_
                      refine zan67 X hK hW (by omega) dX10_reaches_152 ?_
                      refine lv_bipush (v := 99) hx hb dX10_reaches_153 (by decide) ?_
                      refine lv_icmp_ne (tgt := 167) hx hb dX10_reaches_155 (by decide) (fun b191 => ?_) (fun b191 => ?_)
                      · refine lv_iconst (v := 0) hx hb dX10_reaches_167 (by decide) ?_
                        exact ze_z hx hb hr hlocks (absurd (b179.symm.trans b187) (by decide)) dX10_reaches_168
                      · refine lv_iload hx hb dX10_reaches_158 (lv_at hl 0 rfl) ?_
                        refine lv_if_eq (tgt := 167) hx hb dX10_reaches_160 (by decide) (fun h => absurd h (by decide)) (fun _ => ?_)
                        refine lv_iconst (v := 1) hx hb dX10_reaches_163 (by decide) ?_
                        refine lv_goto (tgt := 168) hx hb dX10_reaches_164 (by decide) ?_
                        exact ze_z hx hb hr hlocks (absurd (b179.symm.trans b187) (by decide)) dX10_reaches_168
            · refine lv_iload hx hb dX10_reaches_92 (lv_at hl 1 rfl) ?_
              refine lv_if_ne (tgt := 163) hx hb dX10_reaches_94 (by decide) (fun _ => ?_) (fun h => absurd h (by decide))
              refine lv_iconst (v := 1) hx hb dX10_reaches_163 (by decide) ?_
              refine lv_goto (tgt := 168) hx hb dX10_reaches_164 (by decide) ?_
              exact ze_z hx hb hr hlocks (by simp [bI_t, bI_f, y_reach, b1, Ne.symm b1, b2, Ne.symm b2, b3, b127, b161, Ne.symm b161, b178]) dX10_reaches_168
    · refine lv_iconst (v := 1) hx hb dX10_reaches_24 (by decide) ?_
      exact ze_z hx hb hr hlocks (by simp [bI_t, bI_f, y_reach, b1, Ne.symm b1, b2]) dX10_reaches_25
  · refine lv_iconst (v := 0) hx hb dX10_reaches_17 (by decide) ?_
    exact ze_z hx hb hr hlocks (by simp [bI_t, bI_f, y_reach, b1]) dX10_reaches_18
theorem zmX10_isFree : zmV yX10_isFree RX10 cX10_isFree 4 (some .boolean) 2 := ⟨m_1372, s_51, m_9, m_1373, rfl, by decide, by decide, by decide +kernel⟩
set_option maxRecDepth 100000 in
set_option maxHeartbeats 4000000 in
theorem ctX10_isFree (l : Launch) (D : va_G) (cy : Nat → ClassId) (ad : Nat → Nat → Nat) (μ : zS) (f : Nat) (hi_f : f < 12) (u : Nat) (hi_u : u < 24) : Met l yX10_isFree (zw yX10_isFree cX10_isFree 4 (some .boolean)) (zrm 0) (va_Pc [.ref (ad 30 0), .int (nI f), .int (nI u)] (zB D cy (zW D cy ad zsM μ))) (zqR (.int (bI (y_free μ f u)))) 0 0 (fun _ => False) := by
  refine zmet (by decide) rfl (Nat.le_of_ble_eq_true rfl) rfl (fun p e s m below meth c ls X hml hr hlocks hv hl => ?_)
  obtain ⟨hK, hW⟩ := hv
  obtain ⟨hx, hb, -, -⟩ := id X
  have hl : lv_has ls 4 [(0, .ref (ad 30 0)), (1, .int (nI f)), (2, .int (nI u))] := hl
  refine lv_aload_n hx hb dX10_isFree_0 rfl (lv_at hl 0 rfl) ?_
  refine zg8_17 X hK hW m_1123 dX10_isFree_1 ?_
  refine lv_iload_n hx hb dX10_isFree_4 rfl (lv_at hl 2 rfl) ?_
  refine zan48 X hK hW (by omega) dX10_isFree_5 ?_
  refine lv_iconst (v := 1) hx hb dX10_isFree_6 (by decide) ?_
  refine lv_icmp_ne (tgt := 39) hx hb dX10_isFree_7 (by decide) (fun b1 => ?_) (fun b1 => ?_)
  · refine lv_iconst (v := 0) hx hb dX10_isFree_39 (by decide) ?_
    refine lv_istore_n (lv' := [(3, .int 0), (0, .ref (ad 30 0)), (1, .int (nI f)), (2, .int (nI u))]) hx hb dX10_isFree_40 rfl hl (by decide) rfl (fun ls hl => ?_)
    refine lv_iload_n hx hb dX10_isFree_41 rfl (lv_at hl 0 rfl) ?_
    refine lv_if_eq (tgt := 74) hx hb dX10_isFree_42 (by decide) (fun _ => ?_) (fun h => absurd h (by decide))
    refine lv_iconst (v := 0) hx hb dX10_isFree_74 (by decide) ?_
    exact ze_z hx hb hr hlocks (by simp [bI_t, bI_f, y_free, b1, Ne.symm b1]) dX10_isFree_75
  · refine lv_aload_n hx hb dX10_isFree_10 rfl (lv_at hl 0 rfl) ?_
    refine zg8_18 X hK hW m_1124 dX10_isFree_11 ?_
    refine lv_iload_n hx hb dX10_isFree_14 rfl (lv_at hl 2 rfl) ?_
    refine zan49 X hK hW (by omega) dX10_isFree_15 ?_
    refine lv_iconst (v := 1) hx hb dX10_isFree_16 (by decide) ?_
    refine lv_icmp_ne (tgt := 39) hx hb dX10_isFree_17 (by decide) (fun b3 => ?_) (fun b3 => ?_)
    · refine lv_iconst (v := 0) hx hb dX10_isFree_39 (by decide) ?_
      refine lv_istore_n (lv' := [(3, .int 0), (0, .ref (ad 30 0)), (1, .int (nI f)), (2, .int (nI u))]) hx hb dX10_isFree_40 rfl hl (by decide) rfl (fun ls hl => ?_)
      refine lv_iload_n hx hb dX10_isFree_41 rfl (lv_at hl 0 rfl) ?_
      refine lv_if_eq (tgt := 74) hx hb dX10_isFree_42 (by decide) (fun _ => ?_) (fun h => absurd h (by decide))
      refine lv_iconst (v := 0) hx hb dX10_isFree_74 (by decide) ?_
      exact ze_z hx hb hr hlocks (by simp [bI_t, bI_f, y_free, b1, b3, Ne.symm b3]) dX10_isFree_75
    · refine lv_aload_n hx hb dX10_isFree_20 rfl (lv_at hl 0 rfl) ?_
      refine zg8_15 X hK hW m_1121 dX10_isFree_21 ?_
      refine lv_iload_n hx hb dX10_isFree_24 rfl (lv_at hl 2 rfl) ?_
      refine zan46 X hK hW (by omega) dX10_isFree_25 ?_
      refine lv_aload_n hx hb dX10_isFree_26 rfl (lv_at hl 0 rfl) ?_
      refine zg8_34 X hK hW m_1140 dX10_isFree_27 ?_
      refine lv_iload_n hx hb dX10_isFree_30 rfl (lv_at hl 1 rfl) ?_
      refine zan65 X hK hW (by omega) dX10_isFree_31 ?_
      refine lv_icmp_le (tgt := 39) hx hb dX10_isFree_32 (by decide) (fun b5 => ?_) (fun b5 => ?_)
      · refine lv_iconst (v := 0) hx hb dX10_isFree_39 (by decide) ?_
        refine lv_istore_n (lv' := [(3, .int 0), (0, .ref (ad 30 0)), (1, .int (nI f)), (2, .int (nI u))]) hx hb dX10_isFree_40 rfl hl (by decide) rfl (fun ls hl => ?_)
        refine lv_iload_n hx hb dX10_isFree_41 rfl (lv_at hl 0 rfl) ?_
        refine lv_if_eq (tgt := 74) hx hb dX10_isFree_42 (by decide) (fun _ => ?_) (fun h => absurd h (by decide))
        refine lv_iconst (v := 0) hx hb dX10_isFree_74 (by decide) ?_
        exact ze_z hx hb hr hlocks (by simp [bI_t, bI_f, y_free, b1, b3, b5, Int32.not_lt.mpr b5]) dX10_isFree_75
      · refine lv_iconst (v := 1) hx hb dX10_isFree_35 (by decide) ?_
        refine lv_goto (tgt := 40) hx hb dX10_isFree_36 (by decide) ?_
        refine lv_istore_n (lv' := [(3, .int 1), (0, .ref (ad 30 0)), (1, .int (nI f)), (2, .int (nI u))]) hx hb dX10_isFree_40 rfl hl (by decide) rfl (fun ls hl => ?_)
        refine lv_iload_n hx hb dX10_isFree_41 rfl (lv_at hl 0 rfl) ?_
        refine lv_if_eq (tgt := 74) hx hb dX10_isFree_42 (by decide) (fun h => absurd h (by decide)) (fun _ => ?_)
        refine lv_aload_n hx hb dX10_isFree_45 rfl (lv_at hl 1 rfl) ?_
        refine zg8_32 X hK hW m_1138 dX10_isFree_46 ?_
        refine lv_iload_n hx hb dX10_isFree_49 rfl (lv_at hl 2 rfl) ?_
        refine zan63 X hK hW (by omega) dX10_isFree_50 ?_
        refine lv_iload_n hx hb dX10_isFree_51 rfl (lv_at hl 3 rfl) ?_
        refine lv_icmp_ne (tgt := 70) hx hb dX10_isFree_52 (by decide) (fun b8 => ?_) (fun b8 => ?_)
        · refine lv_iconst (v := 1) hx hb dX10_isFree_70 (by decide) ?_
          refine lv_goto (tgt := 75) hx hb dX10_isFree_71 (by decide) ?_
          exact ze_z hx hb hr hlocks (by simp [bI_t, bI_f, y_free, b1, b3, b5, Int32.not_le.mp b5, b8, Ne.symm b8]) dX10_isFree_75
        · refine lv_aload_n hx hb dX10_isFree_55 rfl (lv_at hl 1 rfl) ?_
          refine zg8_19 X hK hW m_1125 dX10_isFree_56 ?_
          refine lv_iload_n hx hb dX10_isFree_59 rfl (lv_at hl 3 rfl) ?_
          refine zan50 X hK hW (by omega) dX10_isFree_60 ?_
          refine lv_aload_n hx hb dX10_isFree_61 rfl (lv_at hl 1 rfl) ?_
          refine zg8_34 X hK hW m_1140 dX10_isFree_62 ?_
          refine lv_iload_n hx hb dX10_isFree_65 rfl (lv_at hl 2 rfl) ?_
          refine zan65 X hK hW (by omega) dX10_isFree_66 ?_
          refine lv_icmp_le (tgt := 74) hx hb dX10_isFree_67 (by decide) (fun b9 => ?_) (fun b9 => ?_)
          · refine lv_iconst (v := 0) hx hb dX10_isFree_74 (by decide) ?_
            exact ze_z hx hb hr hlocks (by simp [bI_t, bI_f, y_free, b1, b3, b5, Int32.not_le.mp b5, b8, b9, Int32.not_lt.mpr b9]) dX10_isFree_75
          · refine lv_iconst (v := 1) hx hb dX10_isFree_70 (by decide) ?_
            refine lv_goto (tgt := 75) hx hb dX10_isFree_71 (by decide) ?_
            exact ze_z hx hb hr hlocks (by simp [bI_t, bI_f, y_free, b1, b3, b5, Int32.not_le.mp b5, b8, b9, Int32.not_le.mp b9]) dX10_isFree_75
theorem zmX10_isHeldDown : zmV yX10_isHeldDown RX10 cX10_isHeldDown 4 (some .boolean) 1 := ⟨m_1400, s_54, m_9, m_1401, rfl, by decide, by decide, by decide +kernel⟩
set_option maxRecDepth 100000 in
set_option maxHeartbeats 4000000 in
theorem ctX10_isHeldDown (l : Launch) (D : va_G) (cy : Nat → ClassId) (ad : Nat → Nat → Nat) (μ : zS) (u : Nat) (hi_u : u < 24) (hV : yV μ) : Met l yX10_isHeldDown (zw yX10_isHeldDown cX10_isHeldDown 4 (some .boolean)) (zrm 2) (va_Pc [.ref (ad 30 0), .int (nI u)] (zB D cy (zW D cy ad zsM μ))) (zqR (.int (bI (y_down μ u)))) 0 0 (fun _ => False) := by
  refine zmet (by decide) rfl (Nat.le_of_ble_eq_true rfl) rfl (fun p e s m below meth c ls X hml hr hlocks hv hl => ?_)
  obtain ⟨hK, hW⟩ := hv
  obtain ⟨hx, hb, -, -⟩ := id X
  have hl : lv_has ls 4 [(0, .ref (ad 30 0)), (1, .int (nI u))] := hl
  refine lv_iconst (v := 0) hx hb dX10_isHeldDown_0 (by decide) ?_
  refine lv_istore_n (lv' := [(2, .int 0), (0, .ref (ad 30 0)), (1, .int (nI u))]) hx hb dX10_isHeldDown_1 rfl hl (by decide) rfl (fun ls hl => ?_)
  refine lv_iconst (v := 0) hx hb dX10_isHeldDown_2 (by decide) ?_
  refine lv_istore_n (lv' := [(3, .int 0), (2, .int 0), (0, .ref (ad 30 0)), (1, .int (nI u))]) hx hb dX10_isHeldDown_3 rfl hl (by decide) rfl (fun ls hl => ?_)
  have loop4 : ∀ (n : Nat) (k : Nat) (a : Bool) (ls : Array Slot), lv_has ls 4 [(0, .ref (ad 30 0)), (1, .int (nI u)), (2, .int (bI a)), (3, .int (nI k))] → zn μ 843 + 1 - k < n → (k ≤ zn μ 843) → (a = zany (fun f => y_reach μ f u && !y_free μ f u) k) → W p l e (zrm 2) s m ([.ref (ad 30 0), .int (nI u)] : List Value).toArray below meth c s.heap [] 0 0 (MQ below (zqR (.int (bI (y_down μ u)))) ([.ref (ad 30 0), .int (nI u)] : List Value).toArray s 0 0 (fun _ => False)) (F0 m 4 ls []) := by
    intro n
    induction n with
    | zero => intro k a ls hl hm hk ha; exact absurd hm (Nat.not_lt_zero _)
    | succ n ih4 =>
      intro k a ls hl hm hk ha
      refine lv_iload_n hx hb dX10_isHeldDown_4 rfl (lv_at hl 3 rfl) ?_
      refine lv_aload_n hx hb dX10_isHeldDown_5 rfl (lv_at hl 0 rfl) ?_
      refine zg8_43 X hK hW m_1149 dX10_isHeldDown_6 ?_
      refine lv_icmp_ge (tgt := 46) hx hb dX10_isHeldDown_9 (by decide) (fun b1 => ?_) (fun b1 => ?_)
      · refine lv_iload_n hx hb dX10_isHeldDown_46 rfl (lv_at hl 2 rfl) ?_
        exact ze_z hx hb hr hlocks (by rw [ha, zge_of hV.1.2.2.2.2 (by decide) hk b1]; rfl) dX10_isHeldDown_47
      · have hlt : k < zn μ 843 := zlt_of hV.1.2.2.2.2 (by decide) hk b1
        have hltN := Nat.lt_of_lt_of_le hlt hV.1.2.2.2.2.2
        refine lv_iload_n hx hb dX10_isHeldDown_12 rfl (lv_at hl 2 rfl) ?_
        refine zb_ne (tgt := 34) hx hb dX10_isHeldDown_13 (by decide) (fun b2 => ?_) (fun b2 => ?_)
        · refine lv_iconst (v := 1) hx hb dX10_isHeldDown_34 (by decide) ?_
          refine lv_goto (tgt := 39) hx hb dX10_isHeldDown_35 (by decide) ?_
          refine lv_istore_n (lv' := [(2, .int 1), (0, .ref (ad 30 0)), (1, .int (nI u)), (3, .int (nI k))]) hx hb dX10_isHeldDown_39 rfl hl (by decide) rfl (fun ls hl => ?_)
          refine lv_iinc (v := nI (k + 1)) (lv' := [(3, .int (nI (k + 1))), (2, .int 1), (0, .ref (ad 30 0)), (1, .int (nI u))]) hx hb dX10_isHeldDown_40 hl (k := 3) rfl (nI_1 k) (by decide) rfl (fun ls hl => ?_)
          refine lv_goto (tgt := 4) hx hb dX10_isHeldDown_43 (by decide) ?_
          exact ih4 (k + 1) true _ (lv_sub hl [2, 3, 1, 0] rfl) (by omega) hlt (by rw [zany, ← ha]; simp [b1, Int32.not_le.mp b1, b2])
        · refine lv_aload_n hx hb dX10_isHeldDown_16 rfl (lv_at hl 0 rfl) ?_
          refine lv_iload_n hx hb dX10_isHeldDown_17 rfl (lv_at hl 3 rfl) ?_
          refine lv_iload_n hx hb dX10_isHeldDown_18 rfl (lv_at hl 1 rfl) ?_
          refine zcallRV (As := [.int (nI k), .int (nI u)]) (rest := []) X hml hK hW (ctX10_reaches l D cy ad μ k (by omega) u (by omega) hV.1.2.2.1 (hV.2.1 k hlt).1 (hV.2.1 k hlt).2) zmX10_reaches (by decide) m_1358 (zrecv hK (hW 30 0 rfl (by decide)) rfl) ⟨Nat.le_of_ble_eq_true rfl, Nat.le_of_ble_eq_true rfl⟩ ⟨Nat.zero_le _, Nat.zero_le _⟩ rfl hl.1 rfl (Nat.le_of_ble_eq_true rfl) dX10_isHeldDown_19 ?_
          refine zb_eq (tgt := 38) hx hb dX10_isHeldDown_22 (by decide) (fun b3 => ?_) (fun b3 => ?_)
          · refine lv_iconst (v := 0) hx hb dX10_isHeldDown_38 (by decide) ?_
            refine lv_istore_n (lv' := [(2, .int 0), (0, .ref (ad 30 0)), (1, .int (nI u)), (3, .int (nI k))]) hx hb dX10_isHeldDown_39 rfl hl (by decide) rfl (fun ls hl => ?_)
            refine lv_iinc (v := nI (k + 1)) (lv' := [(3, .int (nI (k + 1))), (2, .int 0), (0, .ref (ad 30 0)), (1, .int (nI u))]) hx hb dX10_isHeldDown_40 hl (k := 3) rfl (nI_1 k) (by decide) rfl (fun ls hl => ?_)
            refine lv_goto (tgt := 4) hx hb dX10_isHeldDown_43 (by decide) ?_
            exact ih4 (k + 1) false _ (lv_sub hl [2, 3, 1, 0] rfl) (by omega) hlt (by rw [zany, ← ha]; simp [b1, Int32.not_le.mp b1, b2, b3])
          · refine lv_aload_n hx hb dX10_isHeldDown_25 rfl (lv_at hl 0 rfl) ?_
            refine lv_iload_n hx hb dX10_isHeldDown_26 rfl (lv_at hl 3 rfl) ?_
            refine lv_iload_n hx hb dX10_isHeldDown_27 rfl (lv_at hl 1 rfl) ?_
            refine zcallRV (As := [.int (nI k), .int (nI u)]) (rest := []) X hml hK hW (ctX10_isFree l D cy ad μ k (by omega) u (by omega)) zmX10_isFree (by decide) m_1370 (zrecv hK (hW 30 0 rfl (by decide)) rfl) ⟨Nat.le_of_ble_eq_true rfl, Nat.le_of_ble_eq_true rfl⟩ ⟨Nat.zero_le _, Nat.zero_le _⟩ rfl hl.1 rfl (Nat.le_of_ble_eq_true rfl) dX10_isHeldDown_28 ?_
            refine zb_ne (tgt := 38) hx hb dX10_isHeldDown_31 (by decide) (fun b4 => ?_) (fun b4 => ?_)
            · refine lv_iconst (v := 0) hx hb dX10_isHeldDown_38 (by decide) ?_
              refine lv_istore_n (lv' := [(2, .int 0), (0, .ref (ad 30 0)), (1, .int (nI u)), (3, .int (nI k))]) hx hb dX10_isHeldDown_39 rfl hl (by decide) rfl (fun ls hl => ?_)
              refine lv_iinc (v := nI (k + 1)) (lv' := [(3, .int (nI (k + 1))), (2, .int 0), (0, .ref (ad 30 0)), (1, .int (nI u))]) hx hb dX10_isHeldDown_40 hl (k := 3) rfl (nI_1 k) (by decide) rfl (fun ls hl => ?_)
              refine lv_goto (tgt := 4) hx hb dX10_isHeldDown_43 (by decide) ?_
              exact ih4 (k + 1) false _ (lv_sub hl [2, 3, 1, 0] rfl) (by omega) hlt (by rw [zany, ← ha]; simp [b1, Int32.not_le.mp b1, b2, b3, b4])
            · refine lv_iconst (v := 1) hx hb dX10_isHeldDown_34 (by decide) ?_
              refine lv_goto (tgt := 39) hx hb dX10_isHeldDown_35 (by decide) ?_
              refine lv_istore_n (lv' := [(2, .int 1), (0, .ref (ad 30 0)), (1, .int (nI u)), (3, .int (nI k))]) hx hb dX10_isHeldDown_39 rfl hl (by decide) rfl (fun ls hl => ?_)
              refine lv_iinc (v := nI (k + 1)) (lv' := [(3, .int (nI (k + 1))), (2, .int 1), (0, .ref (ad 30 0)), (1, .int (nI u))]) hx hb dX10_isHeldDown_40 hl (k := 3) rfl (nI_1 k) (by decide) rfl (fun ls hl => ?_)
              refine lv_goto (tgt := 4) hx hb dX10_isHeldDown_43 (by decide) ?_
              exact ih4 (k + 1) true _ (lv_sub hl [2, 3, 1, 0] rfl) (by omega) hlt (by rw [zany, ← ha]; simp [b1, Int32.not_le.mp b1, b2, b3, b4])
  exact loop4 _ 0 false _ (lv_sub hl [2, 3, 1, 0] rfl) (Nat.lt_succ_self _) (Nat.zero_le _) rfl
theorem zmX10_isFit : zmV yX10_isFit RX10 cX10_isFit 2 (some .boolean) 1 := ⟨m_1396, s_53, m_9, m_1397, rfl, by decide, by decide, by decide +kernel⟩
set_option maxRecDepth 100000 in
set_option maxHeartbeats 4000000 in
theorem ctX10_isFit (l : Launch) (D : va_G) (cy : Nat → ClassId) (ad : Nat → Nat → Nat) (μ : zS) (u : Nat) (hi_u : u < 24) (hV : yV μ) : Met l yX10_isFit (zw yX10_isFit cX10_isFit 2 (some .boolean)) (zrm 3) (va_Pc [.ref (ad 30 0), .int (nI u)] (zB D cy (zW D cy ad zsM μ))) (zqR (.int (bI (y_fit μ u)))) 0 0 (fun _ => False) := by
  refine zmet (by decide) rfl (Nat.le_of_ble_eq_true rfl) rfl (fun p e s m below meth c ls X hml hr hlocks hv hl => ?_)
  obtain ⟨hK, hW⟩ := hv
  obtain ⟨hx, hb, -, -⟩ := id X
  have hl : lv_has ls 2 [(0, .ref (ad 30 0)), (1, .int (nI u))] := hl
  refine lv_aload_n hx hb dX10_isFit_0 rfl (lv_at hl 0 rfl) ?_
  refine lv_iload_n hx hb dX10_isFit_1 rfl (lv_at hl 1 rfl) ?_
  refine zcallRV (As := [.int (nI u)]) (rest := []) X hml hK hW (ctX10_isHeldDown l D cy ad μ u (by omega) hV) zmX10_isHeldDown (by decide) m_1398 (zrecv hK (hW 30 0 rfl (by decide)) rfl) ⟨Nat.le_of_ble_eq_true rfl, Nat.le_of_ble_eq_true rfl⟩ ⟨Nat.zero_le _, Nat.zero_le _⟩ rfl hl.1 rfl (Nat.le_of_ble_eq_true rfl) dX10_isFit_2 ?_
  refine zb_ne (tgt := 20) hx hb dX10_isFit_5 (by decide) (fun b1 => ?_) (fun b1 => ?_)
  · refine lv_iconst (v := 0) hx hb dX10_isFit_20 (by decide) ?_
    exact ze_z hx hb hr hlocks (by simp [bI_t, bI_f, y_fit, b1]) dX10_isFit_21
  · refine lv_aload_n hx hb dX10_isFit_8 rfl (lv_at hl 0 rfl) ?_
    refine lv_iload_n hx hb dX10_isFit_9 rfl (lv_at hl 1 rfl) ?_
    refine zcallRV (As := [.int (nI u)]) (rest := []) X hml hK hW (ctX10_isOld l D cy ad μ u (by omega) (hV.2.2.1 u hi_u)) zmX10_isOld (by decide) m_1402 (zrecv hK (hW 30 0 rfl (by decide)) rfl) ⟨Nat.le_of_ble_eq_true rfl, Nat.le_of_ble_eq_true rfl⟩ ⟨Nat.zero_le _, Nat.zero_le _⟩ rfl hl.1 rfl (Nat.le_of_ble_eq_true rfl) dX10_isFit_10 ?_
    refine zb_ne (tgt := 20) hx hb dX10_isFit_13 (by decide) (fun b2 => ?_) (fun b2 => ?_)
    · refine lv_iconst (v := 0) hx hb dX10_isFit_20 (by decide) ?_
      exact ze_z hx hb hr hlocks (by simp [bI_t, bI_f, y_fit, b1, b2]) dX10_isFit_21
    · refine lv_iconst (v := 1) hx hb dX10_isFit_16 (by decide) ?_
      refine lv_goto (tgt := 21) hx hb dX10_isFit_17 (by decide) ?_
      exact ze_z hx hb hr hlocks (by simp [bI_t, bI_f, y_fit, b1, b2]) dX10_isFit_21
theorem ctX10_isOld_x (l : Launch) (D : va_G) (cy : Nat → ClassId) (ad : Nat → Nat → Nat) (μ : zS) (x : Int32) (hx : vp_in x 24) (hV : yV μ) : Met l yX10_isOld (zw yX10_isOld cX10_isOld 2 (some .boolean)) (zrm 1) (va_Pc [.ref (ad 30 0), .int x] (zB D cy (zW D cy ad zsM μ))) (zqR (.int (bI (y_old μ x.toNatClampNeg)))) 0 0 (fun _ => False) := by
  obtain ⟨j, hj, rfl⟩ := vp_in_of hx (by decide)
  rw [nI_clamp (by omega)]
  exact ctX10_isOld l D cy ad μ j hj (hV.2.2.1 j hj)
theorem ctX10_isHeldDown_x (l : Launch) (D : va_G) (cy : Nat → ClassId) (ad : Nat → Nat → Nat) (μ : zS) (x : Int32) (hx : vp_in x 24) (hV : yV μ) : Met l yX10_isHeldDown (zw yX10_isHeldDown cX10_isHeldDown 4 (some .boolean)) (zrm 2) (va_Pc [.ref (ad 30 0), .int x] (zB D cy (zW D cy ad zsM μ))) (zqR (.int (bI (y_down μ x.toNatClampNeg)))) 0 0 (fun _ => False) := by
  obtain ⟨j, hj, rfl⟩ := vp_in_of hx (by decide)
  rw [nI_clamp (by omega)]
  exact ctX10_isHeldDown l D cy ad μ j hj hV
theorem ctX10_isFit_x (l : Launch) (D : va_G) (cy : Nat → ClassId) (ad : Nat → Nat → Nat) (μ : zS) (x : Int32) (hx : vp_in x 24) (hV : yV μ) : Met l yX10_isFit (zw yX10_isFit cX10_isFit 2 (some .boolean)) (zrm 3) (va_Pc [.ref (ad 30 0), .int x] (zB D cy (zW D cy ad zsM μ))) (zqR (.int (bI (y_fit μ x.toNatClampNeg)))) 0 0 (fun _ => False) := by
  obtain ⟨j, hj, rfl⟩ := vp_in_of hx (by decide)
  rw [nI_clamp (by omega)]
  exact ctX10_isFit l D cy ad μ j hj hV
