theorem zmX8_isIn : zmS yX8_isIn RX8 cX8_isIn 3 (some .boolean) 3 := ⟨m_347, m_9, m_348, rfl, by decide, by decide, by decide +kernel⟩
set_option maxRecDepth 100000 in
set_option maxHeartbeats 4000000 in
theorem ctX8_isIn (l : Launch) (D : va_G) (cy : Nat → ClassId) (x : Int32) (lo : Int32) (hi : Int32) : Met l yX8_isIn (zw yX8_isIn cX8_isIn 3 (some .boolean)) (zrm 0) (va_Pc [.int x, .int lo, .int hi] (zB D cy (fun _ => True))) (zqR (.int (bI (k_in x lo hi)))) 0 0 (fun _ => False) := by
  refine zmet (by decide) rfl (Nat.le_of_ble_eq_true rfl) rfl (fun p e s m below meth c ls X hml hr hlocks hv hl => ?_)
  obtain ⟨hK, hW⟩ := hv
  obtain ⟨hx, hb, -, -⟩ := id X
  have hl : lv_has ls 3 [(0, .int x), (1, .int lo), (2, .int hi)] := hl
  refine lv_iload_n hx hb dX8_isIn_0 rfl (lv_at hl 0 rfl) ?_
  refine lv_iload_n hx hb dX8_isIn_1 rfl (lv_at hl 1 rfl) ?_
  refine lv_icmp_lt (tgt := 14) hx hb dX8_isIn_2 (by decide) (fun b1 => ?_) (fun b1 => ?_)
  · refine lv_iconst (v := 0) hx hb dX8_isIn_14 (by decide) ?_
    exact ze_z hx hb hr hlocks (by simp [bI_t, bI_f, k_in, b1, Int32.not_le.mpr b1]) dX8_isIn_15
  · refine lv_iload_n hx hb dX8_isIn_5 rfl (lv_at hl 0 rfl) ?_
    refine lv_iload_n hx hb dX8_isIn_6 rfl (lv_at hl 2 rfl) ?_
    refine lv_icmp_gt (tgt := 14) hx hb dX8_isIn_7 (by decide) (fun b2 => ?_) (fun b2 => ?_)
    · refine lv_iconst (v := 0) hx hb dX8_isIn_14 (by decide) ?_
      exact ze_z hx hb hr hlocks (by simp [bI_t, bI_f, k_in, b1, Int32.not_lt.mp b1, b2, Int32.not_le.mpr b2]) dX8_isIn_15
    · refine lv_iconst (v := 1) hx hb dX8_isIn_10 (by decide) ?_
      refine lv_goto (tgt := 15) hx hb dX8_isIn_11 (by decide) ?_
      exact ze_z hx hb hr hlocks (by simp [bI_t, bI_f, k_in, b1, Int32.not_lt.mp b1, b2, Int32.not_lt.mp b2]) dX8_isIn_15
theorem zmX8_areLicences : zmS yX8_areLicences RX8 cX8_areLicences 2 (some .boolean) 2 := ⟨m_344, m_9, m_345, rfl, by decide, by decide, by decide +kernel⟩
set_option maxRecDepth 100000 in
set_option maxHeartbeats 4000000 in
theorem ctX8_areLicences (l : Launch) (D : va_G) (cy : Nat → ClassId) (x : Int32) (y : Int32) : Met l yX8_areLicences (zw yX8_areLicences cX8_areLicences 2 (some .boolean)) (zrm 1) (va_Pc [.int x, .int y] (zB D cy (fun _ => True))) (zqR (.int (bI (k_lic x y)))) 0 0 (fun _ => False) := by
  refine zmet (by decide) rfl (Nat.le_of_ble_eq_true rfl) rfl (fun p e s m below meth c ls X hml hr hlocks hv hl => ?_)
  obtain ⟨hK, hW⟩ := hv
  obtain ⟨hx, hb, -, -⟩ := id X
  have hl : lv_has ls 2 [(0, .int x), (1, .int y)] := hl
  refine lv_iload_n hx hb dX8_areLicences_0 rfl (lv_at hl 0 rfl) ?_
  refine lv_iconst (v := 0) hx hb dX8_areLicences_1 (by decide) ?_
  refine lv_bipush (v := 63) hx hb dX8_areLicences_2 (by decide) ?_
  refine zcallRS (As := [.int x, .int 0, .int 63]) (rest := []) X hml hK trivial (ctX8_isIn l D cy x 0 63) zmX8_isIn (by decide) m_346 ⟨Nat.le_of_ble_eq_true rfl, Nat.le_of_ble_eq_true rfl⟩ ⟨Nat.zero_le _, Nat.zero_le _⟩ rfl hl.1 rfl (Nat.le_of_ble_eq_true rfl) dX8_areLicences_4 ?_
  refine zb_eq (tgt := 25) hx hb dX8_areLicences_7 (by decide) (fun b1 => ?_) (fun b1 => ?_)
  · refine lv_iconst (v := 0) hx hb dX8_areLicences_25 (by decide) ?_
    exact ze_z hx hb hr hlocks (by simp [bI_t, bI_f, k_lic, b1]) dX8_areLicences_26
  · refine lv_iload_n hx hb dX8_areLicences_10 rfl (lv_at hl 1 rfl) ?_
    refine lv_iconst (v := 0) hx hb dX8_areLicences_11 (by decide) ?_
    refine lv_sipush (v := 9999) hx hb dX8_areLicences_12 (by decide) ?_
    refine zcallRS (As := [.int y, .int 0, .int 9999]) (rest := []) X hml hK trivial (ctX8_isIn l D cy y 0 9999) zmX8_isIn (by decide) m_346 ⟨Nat.le_of_ble_eq_true rfl, Nat.le_of_ble_eq_true rfl⟩ ⟨Nat.zero_le _, Nat.zero_le _⟩ rfl hl.1 rfl (Nat.le_of_ble_eq_true rfl) dX8_areLicences_15 ?_
    refine zb_eq (tgt := 25) hx hb dX8_areLicences_18 (by decide) (fun b2 => ?_) (fun b2 => ?_)
    · refine lv_iconst (v := 0) hx hb dX8_areLicences_25 (by decide) ?_
      exact ze_z hx hb hr hlocks (by simp [bI_t, bI_f, k_lic, b1, b2]) dX8_areLicences_26
    · refine lv_iconst (v := 1) hx hb dX8_areLicences_21 (by decide) ?_
      refine lv_goto (tgt := 26) hx hb dX8_areLicences_22 (by decide) ?_
      exact ze_z hx hb hr hlocks (by simp [bI_t, bI_f, k_lic, b1, b2]) dX8_areLicences_26
theorem zmX5_hasRigger : zmV yX5_hasRigger RX5 cX5_hasRigger 2 (some .boolean) 1 := ⟨m_359, m_360, m_2, m_361, rfl, by decide, by decide, by decide +kernel⟩
set_option maxRecDepth 100000 in
set_option maxHeartbeats 4000000 in
theorem ctX5_hasRigger (l : Launch) (D : va_G) (cy : Nat → ClassId) (ad : Nat → Nat → Nat) (σ : zS) (x : Int32) : Met l yX5_hasRigger (zw yX5_hasRigger cX5_hasRigger 2 (some .boolean)) (zrm 0) (va_Pc [.ref (ad 0 0), .int x] (zB D cy (zW D cy ad zsL σ))) (zqR (.int (bI (k_has σ 505 x)))) 0 0 (fun _ => False) := by
  refine zmet (by decide) rfl (Nat.le_of_ble_eq_true rfl) rfl (fun p e s m below meth c ls X hml hr hlocks hv hl => ?_)
  obtain ⟨hK, hW⟩ := hv
  obtain ⟨hx, hb, -, -⟩ := id X
  have hl : lv_has ls 2 [(0, .ref (ad 0 0)), (1, .int x)] := hl
  refine lv_iload_n hx hb dX5_hasRigger_0 rfl (lv_at hl 1 rfl) ?_
  refine lv_if_lt (tgt := 16) hx hb dX5_hasRigger_1 (by decide) (fun b1 => ?_) (fun b1 => ?_)
  · refine lv_iconst (v := 0) hx hb dX5_hasRigger_16 (by decide) ?_
    exact ze_z hx hb hr hlocks (by simp [bI_t, bI_f, k_has, b1, Int32.not_le.mpr b1]) dX5_hasRigger_17
  · refine lv_iload_n hx hb dX5_hasRigger_4 rfl (lv_at hl 1 rfl) ?_
    refine lv_aload_n hx hb dX5_hasRigger_5 rfl (lv_at hl 0 rfl) ?_
    refine zg5_5 X hK hW m_255 dX5_hasRigger_6 ?_
    refine lv_icmp_ge (tgt := 16) hx hb dX5_hasRigger_9 (by decide) (fun b2 => ?_) (fun b2 => ?_)
    · refine lv_iconst (v := 0) hx hb dX5_hasRigger_16 (by decide) ?_
      exact ze_z hx hb hr hlocks (by simp [bI_t, bI_f, k_has, b1, Int32.not_lt.mp b1, b2, Int32.not_lt.mpr b2]) dX5_hasRigger_17
    · refine lv_iconst (v := 1) hx hb dX5_hasRigger_12 (by decide) ?_
      refine lv_goto (tgt := 17) hx hb dX5_hasRigger_13 (by decide) ?_
      exact ze_z hx hb hr hlocks (by simp [bI_t, bI_f, k_has, b1, Int32.not_lt.mp b1, b2, Int32.not_le.mp b2]) dX5_hasRigger_17
theorem zmX5_hasCanopy : zmV yX5_hasCanopy RX5 cX5_hasCanopy 2 (some .boolean) 1 := ⟨m_374, m_375, m_2, m_376, rfl, by decide, by decide, by decide +kernel⟩
set_option maxRecDepth 100000 in
set_option maxHeartbeats 4000000 in
theorem ctX5_hasCanopy (l : Launch) (D : va_G) (cy : Nat → ClassId) (ad : Nat → Nat → Nat) (σ : zS) (x : Int32) : Met l yX5_hasCanopy (zw yX5_hasCanopy cX5_hasCanopy 2 (some .boolean)) (zrm 0) (va_Pc [.ref (ad 0 0), .int x] (zB D cy (zW D cy ad zsL σ))) (zqR (.int (bI (k_has σ 506 x)))) 0 0 (fun _ => False) := by
  refine zmet (by decide) rfl (Nat.le_of_ble_eq_true rfl) rfl (fun p e s m below meth c ls X hml hr hlocks hv hl => ?_)
  obtain ⟨hK, hW⟩ := hv
  obtain ⟨hx, hb, -, -⟩ := id X
  have hl : lv_has ls 2 [(0, .ref (ad 0 0)), (1, .int x)] := hl
  refine lv_iload_n hx hb dX5_hasCanopy_0 rfl (lv_at hl 1 rfl) ?_
  refine lv_if_lt (tgt := 16) hx hb dX5_hasCanopy_1 (by decide) (fun b1 => ?_) (fun b1 => ?_)
  · refine lv_iconst (v := 0) hx hb dX5_hasCanopy_16 (by decide) ?_
    exact ze_z hx hb hr hlocks (by simp [bI_t, bI_f, k_has, b1, Int32.not_le.mpr b1]) dX5_hasCanopy_17
  · refine lv_iload_n hx hb dX5_hasCanopy_4 rfl (lv_at hl 1 rfl) ?_
    refine lv_aload_n hx hb dX5_hasCanopy_5 rfl (lv_at hl 0 rfl) ?_
    refine zg5_6 X hK hW m_257 dX5_hasCanopy_6 ?_
    refine lv_icmp_ge (tgt := 16) hx hb dX5_hasCanopy_9 (by decide) (fun b2 => ?_) (fun b2 => ?_)
    · refine lv_iconst (v := 0) hx hb dX5_hasCanopy_16 (by decide) ?_
      exact ze_z hx hb hr hlocks (by simp [bI_t, bI_f, k_has, b1, Int32.not_lt.mp b1, b2, Int32.not_lt.mpr b2]) dX5_hasCanopy_17
    · refine lv_iconst (v := 1) hx hb dX5_hasCanopy_12 (by decide) ?_
      refine lv_goto (tgt := 17) hx hb dX5_hasCanopy_13 (by decide) ?_
      exact ze_z hx hb hr hlocks (by simp [bI_t, bI_f, k_has, b1, Int32.not_lt.mp b1, b2, Int32.not_le.mp b2]) dX5_hasCanopy_17
theorem zmX5_hasLoad : zmV yX5_hasLoad RX5 cX5_hasLoad 2 (some .boolean) 1 := ⟨m_397, m_398, m_2, m_399, rfl, by decide, by decide, by decide +kernel⟩
set_option maxRecDepth 100000 in
set_option maxHeartbeats 4000000 in
theorem ctX5_hasLoad (l : Launch) (D : va_G) (cy : Nat → ClassId) (ad : Nat → Nat → Nat) (σ : zS) (x : Int32) : Met l yX5_hasLoad (zw yX5_hasLoad cX5_hasLoad 2 (some .boolean)) (zrm 0) (va_Pc [.ref (ad 0 0), .int x] (zB D cy (zW D cy ad zsL σ))) (zqR (.int (bI (k_has σ 507 x)))) 0 0 (fun _ => False) := by
  refine zmet (by decide) rfl (Nat.le_of_ble_eq_true rfl) rfl (fun p e s m below meth c ls X hml hr hlocks hv hl => ?_)
  obtain ⟨hK, hW⟩ := hv
  obtain ⟨hx, hb, -, -⟩ := id X
  have hl : lv_has ls 2 [(0, .ref (ad 0 0)), (1, .int x)] := hl
  refine lv_iload_n hx hb dX5_hasLoad_0 rfl (lv_at hl 1 rfl) ?_
  refine lv_if_lt (tgt := 16) hx hb dX5_hasLoad_1 (by decide) (fun b1 => ?_) (fun b1 => ?_)
  · refine lv_iconst (v := 0) hx hb dX5_hasLoad_16 (by decide) ?_
    exact ze_z hx hb hr hlocks (by simp [bI_t, bI_f, k_has, b1, Int32.not_le.mpr b1]) dX5_hasLoad_17
  · refine lv_iload_n hx hb dX5_hasLoad_4 rfl (lv_at hl 1 rfl) ?_
    refine lv_aload_n hx hb dX5_hasLoad_5 rfl (lv_at hl 0 rfl) ?_
    refine zg5_7 X hK hW m_260 dX5_hasLoad_6 ?_
    refine lv_icmp_ge (tgt := 16) hx hb dX5_hasLoad_9 (by decide) (fun b2 => ?_) (fun b2 => ?_)
    · refine lv_iconst (v := 0) hx hb dX5_hasLoad_16 (by decide) ?_
      exact ze_z hx hb hr hlocks (by simp [bI_t, bI_f, k_has, b1, Int32.not_lt.mp b1, b2, Int32.not_lt.mpr b2]) dX5_hasLoad_17
    · refine lv_iconst (v := 1) hx hb dX5_hasLoad_12 (by decide) ?_
      refine lv_goto (tgt := 17) hx hb dX5_hasLoad_13 (by decide) ?_
      exact ze_z hx hb hr hlocks (by simp [bI_t, bI_f, k_has, b1, Int32.not_lt.mp b1, b2, Int32.not_le.mp b2]) dX5_hasLoad_17
theorem zmX5_hasFinding : zmV yX5_hasFinding RX5 cX5_hasFinding 2 (some .boolean) 1 := ⟨m_449, m_450, m_2, m_451, rfl, by decide, by decide, by decide +kernel⟩
set_option maxRecDepth 100000 in
set_option maxHeartbeats 4000000 in
theorem ctX5_hasFinding (l : Launch) (D : va_G) (cy : Nat → ClassId) (ad : Nat → Nat → Nat) (σ : zS) (x : Int32) : Met l yX5_hasFinding (zw yX5_hasFinding cX5_hasFinding 2 (some .boolean)) (zrm 0) (va_Pc [.ref (ad 0 0), .int x] (zB D cy (zW D cy ad zsL σ))) (zqR (.int (bI (k_has σ 508 x)))) 0 0 (fun _ => False) := by
  refine zmet (by decide) rfl (Nat.le_of_ble_eq_true rfl) rfl (fun p e s m below meth c ls X hml hr hlocks hv hl => ?_)
  obtain ⟨hK, hW⟩ := hv
  obtain ⟨hx, hb, -, -⟩ := id X
  have hl : lv_has ls 2 [(0, .ref (ad 0 0)), (1, .int x)] := hl
  refine lv_iload_n hx hb dX5_hasFinding_0 rfl (lv_at hl 1 rfl) ?_
  refine lv_if_lt (tgt := 16) hx hb dX5_hasFinding_1 (by decide) (fun b1 => ?_) (fun b1 => ?_)
  · refine lv_iconst (v := 0) hx hb dX5_hasFinding_16 (by decide) ?_
    exact ze_z hx hb hr hlocks (by simp [bI_t, bI_f, k_has, b1, Int32.not_le.mpr b1]) dX5_hasFinding_17
  · refine lv_iload_n hx hb dX5_hasFinding_4 rfl (lv_at hl 1 rfl) ?_
    refine lv_aload_n hx hb dX5_hasFinding_5 rfl (lv_at hl 0 rfl) ?_
    refine zg5_8 X hK hW m_262 dX5_hasFinding_6 ?_
    refine lv_icmp_ge (tgt := 16) hx hb dX5_hasFinding_9 (by decide) (fun b2 => ?_) (fun b2 => ?_)
    · refine lv_iconst (v := 0) hx hb dX5_hasFinding_16 (by decide) ?_
      exact ze_z hx hb hr hlocks (by simp [bI_t, bI_f, k_has, b1, Int32.not_lt.mp b1, b2, Int32.not_lt.mpr b2]) dX5_hasFinding_17
    · refine lv_iconst (v := 1) hx hb dX5_hasFinding_12 (by decide) ?_
      refine lv_goto (tgt := 17) hx hb dX5_hasFinding_13 (by decide) ?_
      exact ze_z hx hb hr hlocks (by simp [bI_t, bI_f, k_has, b1, Int32.not_lt.mp b1, b2, Int32.not_le.mp b2]) dX5_hasFinding_17
theorem zmX7_may : zmV yX7_may RX7 cX7_may 3 (some .boolean) 2 := ⟨m_387, m_388, m_4, m_389, rfl, by decide, by decide, by decide +kernel⟩
set_option maxRecDepth 100000 in
set_option maxHeartbeats 4000000 in
theorem ctX7_may (l : Launch) (D : va_G) (cy : Nat → ClassId) (ad : Nat → Nat → Nat) (σ : zS) (g : Nat) (hi_g : g < 8) (w : Int32) (dy : Int32) : Met l yX7_may (zw yX7_may cX7_may 3 (some .boolean)) (zrm 0) (va_Pc [.ref (ad 10 g), .int w, .int dy] (zB D cy (zW D cy ad zsL σ))) (zqR (.int (bI (k_may σ g w dy)))) 0 0 (fun _ => False) := by
  refine zmet (by decide) rfl (Nat.le_of_ble_eq_true rfl) rfl (fun p e s m below meth c ls X hml hr hlocks hv hl => ?_)
  obtain ⟨hK, hW⟩ := hv
  obtain ⟨hx, hb, -, -⟩ := id X
  have hl : lv_has ls 3 [(0, .ref (ad 10 g)), (1, .int w), (2, .int dy)] := hl
  refine lv_iload_n hx hb dX7_may_0 rfl (lv_at hl 2 rfl) ?_
  refine lv_aload_n hx hb dX7_may_1 rfl (lv_at hl 0 rfl) ?_
  refine zg6_1 X hK hW hi_g m_83 dX7_may_2 ?_
  refine lv_icmp_gt (tgt := 24) hx hb dX7_may_5 (by decide) (fun b1 => ?_) (fun b1 => ?_)
  · refine lv_iconst (v := 0) hx hb dX7_may_24 (by decide) ?_
    exact ze_z hx hb hr hlocks (by simp [bI_t, bI_f, k_may, b1, Int32.not_le.mpr b1]) dX7_may_25
  · refine lv_aload_n hx hb dX7_may_8 rfl (lv_at hl 0 rfl) ?_
    refine zg6_0 X hK hW hi_g m_81 dX7_may_9 ?_
    refine lv_iload_n hx hb dX7_may_12 rfl (lv_at hl 1 rfl) ?_
    refine lv_ishr hx hb dX7_may_13 ?_
    refine lv_iconst (v := 1) hx hb dX7_may_14 (by decide) ?_
    refine lv_iand hx hb dX7_may_15 ?_
    refine lv_iconst (v := 1) hx hb dX7_may_16 (by decide) ?_
    refine lv_icmp_ne (tgt := 24) hx hb dX7_may_17 (by decide) (fun b2 => ?_) (fun b2 => ?_)
    · refine lv_iconst (v := 0) hx hb dX7_may_24 (by decide) ?_
      exact ze_z hx hb hr hlocks (by simp [bI_t, bI_f, k_may, b1, Int32.not_lt.mp b1, b2, Ne.symm b2]) dX7_may_25
    · refine lv_iconst (v := 1) hx hb dX7_may_20 (by decide) ?_
      refine lv_goto (tgt := 25) hx hb dX7_may_21 (by decide) ?_
      exact ze_z hx hb hr hlocks (by simp [bI_t, bI_f, k_may, b1, Int32.not_lt.mp b1, b2]) dX7_may_25
theorem zmX0_has : zmV yX0_has RX0 cX0_has 2 (some .boolean) 1 := ⟨m_413, m_414, m_3, m_415, rfl, by decide, by decide, by decide +kernel⟩
set_option maxRecDepth 100000 in
set_option maxHeartbeats 4000000 in
theorem ctX0_has (l : Launch) (D : va_G) (cy : Nat → ClassId) (ad : Nat → Nat → Nat) (σ : zS) (x : Int32) : Met l yX0_has (zw yX0_has cX0_has 2 (some .boolean)) (zrm 0) (va_Pc [.ref (ad 5 0), .int x] (zB D cy (zW D cy ad zsL σ))) (zqR (.int (bI (k_has σ 0 x)))) 0 0 (fun _ => False) := by
  refine zmet (by decide) rfl (Nat.le_of_ble_eq_true rfl) rfl (fun p e s m below meth c ls X hml hr hlocks hv hl => ?_)
  obtain ⟨hK, hW⟩ := hv
  obtain ⟨hx, hb, -, -⟩ := id X
  have hl : lv_has ls 2 [(0, .ref (ad 5 0)), (1, .int x)] := hl
  refine lv_iload_n hx hb dX0_has_0 rfl (lv_at hl 1 rfl) ?_
  refine lv_if_lt (tgt := 16) hx hb dX0_has_1 (by decide) (fun b1 => ?_) (fun b1 => ?_)
  · refine lv_iconst (v := 0) hx hb dX0_has_16 (by decide) ?_
    exact ze_z hx hb hr hlocks (by simp [bI_t, bI_f, k_has, b1, Int32.not_le.mpr b1]) dX0_has_17
  · refine lv_iload_n hx hb dX0_has_4 rfl (lv_at hl 1 rfl) ?_
    refine lv_aload_n hx hb dX0_has_5 rfl (lv_at hl 0 rfl) ?_
    refine zg0_0 X hK hW m_56 dX0_has_6 ?_
    refine lv_icmp_ge (tgt := 16) hx hb dX0_has_9 (by decide) (fun b2 => ?_) (fun b2 => ?_)
    · refine lv_iconst (v := 0) hx hb dX0_has_16 (by decide) ?_
      exact ze_z hx hb hr hlocks (by simp [bI_t, bI_f, k_has, b1, Int32.not_lt.mp b1, b2, Int32.not_lt.mpr b2]) dX0_has_17
    · refine lv_iconst (v := 1) hx hb dX0_has_12 (by decide) ?_
      refine lv_goto (tgt := 17) hx hb dX0_has_13 (by decide) ?_
      exact ze_z hx hb hr hlocks (by simp [bI_t, bI_f, k_has, b1, Int32.not_lt.mp b1, b2, Int32.not_le.mp b2]) dX0_has_17
theorem zmX0_handsOf : zmV yX0_handsOf RX0 cX0_handsOf 5 (some .long) 1 := ⟨m_429, m_430, m_3, m_431, rfl, by decide, by decide, by decide +kernel⟩
set_option maxRecDepth 100000 in
set_option maxHeartbeats 4000000 in
theorem ctX0_handsOf (l : Launch) (D : va_G) (cy : Nat → ClassId) (ad : Nat → Nat → Nat) (σ : zS) (x : Int32) (hq : vp_in x 86) : Met l yX0_handsOf (zw yX0_handsOf cX0_handsOf 5 (some .long)) (zrm 0) (va_Pc [.ref (ad 5 0), .int x] (zB D cy (zW D cy ad zsL σ))) (zqR (.long (k_hands σ x.toNatClampNeg))) 0 0 (fun _ => False) := by
  refine zmet (by decide) rfl (Nat.le_of_ble_eq_true rfl) rfl (fun p e s m below meth c ls X hml hr hlocks hv hl => ?_)
  obtain ⟨hK, hW⟩ := hv
  obtain ⟨hx, hb, -, -⟩ := id X
  have hl : lv_has ls 5 [(0, .ref (ad 5 0)), (1, .int x)] := hl
  obtain ⟨q, hq86, hqe⟩ := vp_in_of hq (by decide)
  subst hqe
  refine lv_lconst (v := 0) hx hb dX0_handsOf_0 rfl ?_
  refine lv_lstore_n (lv' := [(2, .long 0), (0, .ref (ad 5 0)), (1, .int (nI q))]) hx hb dX0_handsOf_1 rfl hl (by decide) rfl (fun ls hl => ?_)
  refine lv_iconst (v := 0) hx hb dX0_handsOf_2 (by decide) ?_
  refine lv_istore (lv' := [(4, .int 0), (2, .long 0), (0, .ref (ad 5 0)), (1, .int (nI q))]) hx hb dX0_handsOf_3 hl (by decide) rfl (fun ls hl => ?_)
  have loop5 : ∀ (n : Nat) (k : Nat) (a : Int64) (ls : Array Slot), lv_has ls 5 [(0, .ref (ad 5 0)), (1, .int (nI q)), (2, .long a), (4, .int (nI k))] → 5 - k < n → (k ≤ 5) → (a = zorL (fun i => 1 <<< ((8 * nI i + zA σ 9 0 (q * 5 + i)).toInt64 &&& 63)) k) → W p l e (zrm 0) s m ([.ref (ad 5 0), .int (nI q)] : List Value).toArray below meth c s.heap [] 0 0 (MQ below (zqR (.long (k_hands σ (nI q).toNatClampNeg))) ([.ref (ad 5 0), .int (nI q)] : List Value).toArray s 0 0 (fun _ => False)) (F0 m 5 ls []) := by
    intro n
    induction n with
    | zero => intro k a ls hl hm hk ha; exact absurd hm (Nat.not_lt_zero _)
    | succ n ih5 =>
      intro k a ls hl hm hk ha
      refine lv_iload hx hb dX0_handsOf_5 (lv_at hl 3 rfl) ?_
      refine lv_iconst (v := 5) hx hb dX0_handsOf_7 (by decide) ?_
      refine lv_icmp_ge (tgt := 39) hx hb dX0_handsOf_8 (by decide) (fun b1 => ?_) (fun b1 => ?_)
      · refine lv_lload_n hx hb dX0_handsOf_39 rfl (lv_at hl 2 rfl) ?_
        exact ze_l hx hb hr hlocks (by rw [ha, zge_c (N := 5) (by decide) hk b1, nI_clamp (by omega)]; rfl) dX0_handsOf_40
      · have hlt : k < 5 := zlt_c (by decide) hk b1
        refine lv_lload_n hx hb dX0_handsOf_11 rfl (lv_at hl 2 rfl) ?_
        refine lv_lconst (v := 1) hx hb dX0_handsOf_12 rfl ?_
        refine lv_bipush (v := 8) hx hb dX0_handsOf_13 (by decide) ?_
        refine lv_iload hx hb dX0_handsOf_15 (lv_at hl 3 rfl) ?_
        refine lv_imul hx hb dX0_handsOf_17 ?_
        refine lv_aload_n hx hb dX0_handsOf_18 rfl (lv_at hl 0 rfl) ?_
        refine zg0_4 X hK hW m_63 dX0_handsOf_19 ?_
        refine lv_iload_n hx hb dX0_handsOf_22 rfl (lv_at hl 1 rfl) ?_
        refine lv_iconst (v := 5) hx hb dX0_handsOf_23 (by decide) ?_
        refine lv_imul hx hb dX0_handsOf_24 ?_
        refine lv_iload hx hb dX0_handsOf_25 (lv_at hl 3 rfl) ?_
        refine lv_iadd hx hb dX0_handsOf_27 ?_
        rw [zmul5]
        refine zan9 X hK hW (by omega) dX0_handsOf_28 ?_
        refine lv_iadd hx hb dX0_handsOf_29 ?_
        refine lv_lshl hx hb dX0_handsOf_30 rfl ?_
        refine lv_lor hx hb dX0_handsOf_31 ?_
        refine lv_lstore_n (lv' := [(2, .long (a ||| (1 <<< (((8 * (nI k)) + (zA σ 9 0 (q * 5 + k))).toInt64 &&& 63)))), (0, .ref (ad 5 0)), (1, .int (nI q)), (4, .int (nI k))]) hx hb dX0_handsOf_32 rfl hl (by decide) rfl (fun ls hl => ?_)
        refine lv_iinc (v := nI (k + 1)) (lv' := [(4, .int (nI (k + 1))), (2, .long (a ||| (1 <<< (((8 * (nI k)) + (zA σ 9 0 (q * 5 + k))).toInt64 &&& 63)))), (0, .ref (ad 5 0)), (1, .int (nI q))]) hx hb dX0_handsOf_33 hl (k := 3) rfl (nI_1 k) (by decide) rfl (fun ls hl => ?_)
        refine lv_goto (tgt := 5) hx hb dX0_handsOf_36 (by decide) ?_
        exact ih5 (k + 1) (a ||| (1 <<< (((8 * (nI k)) + (zA σ 9 0 (q * 5 + k))).toInt64 &&& 63))) _ (lv_sub hl [2, 3, 1, 0] rfl) (by omega) hlt (by rw [ha, zorL])
  exact loop5 _ 0 0 _ (lv_sub hl [2, 3, 1, 0] rfl) (Nat.lt_succ_self _) (Nat.zero_le _) rfl
theorem zmX0_numberOf : zmV yX0_numberOf RX0 cX0_numberOf 5 (some .int) 2 := ⟨m_1131, s_35, m_3, m_1132, rfl, by decide, by decide, by decide +kernel⟩
set_option maxRecDepth 100000 in
set_option maxHeartbeats 4000000 in
theorem ctX0_numberOf (l : Launch) (D : va_G) (cy : Nat → ClassId) (ad : Nat → Nat → Nat) (σ : zS) (x : Int32) (j : Int32) (hc : zbd σ 0 86) : Met l yX0_numberOf (zw yX0_numberOf cX0_numberOf 5 (some .int)) (zrm 0) (va_Pc [.ref (ad 5 0), .int x, .int j] (zB D cy (zW D cy ad zsL σ))) (zqR (.int (k_num σ x j))) 0 0 (fun _ => False) := by
  refine zmet (by decide) rfl (Nat.le_of_ble_eq_true rfl) rfl (fun p e s m below meth c ls X hml hr hlocks hv hl => ?_)
  obtain ⟨hK, hW⟩ := hv
  obtain ⟨hx, hb, -, -⟩ := id X
  have hl : lv_has ls 5 [(0, .ref (ad 5 0)), (1, .int x), (2, .int j)] := hl
  refine lv_iconst (v := 0) hx hb dX0_numberOf_0 (by decide) ?_
  refine lv_istore_n (lv' := [(3, .int 0), (0, .ref (ad 5 0)), (1, .int x), (2, .int j)]) hx hb dX0_numberOf_1 rfl hl (by decide) rfl (fun ls hl => ?_)
  refine lv_iconst (v := 0) hx hb dX0_numberOf_2 (by decide) ?_
  refine lv_istore (lv' := [(4, .int 0), (3, .int 0), (0, .ref (ad 5 0)), (1, .int x), (2, .int j)]) hx hb dX0_numberOf_3 hl (by decide) rfl (fun ls hl => ?_)
  have loop5 : ∀ (n : Nat) (k : Nat) (a : Int32) (ls : Array Slot), lv_has ls 5 [(0, .ref (ad 5 0)), (1, .int x), (2, .int j), (3, .int a), (4, .int (nI k))] → zn σ 0 - k < n → (k ≤ zn σ 0) → (a = nI (zct (k_own σ x) k)) → (∀ i, i < k → (k_own σ x i && decide (nI (zct (k_own σ x) i) = j)) = false) → W p l e (zrm 0) s m ([.ref (ad 5 0), .int x, .int j] : List Value).toArray below meth c s.heap [] 0 0 (MQ below (zqR (.int (k_num σ x j))) ([.ref (ad 5 0), .int x, .int j] : List Value).toArray s 0 0 (fun _ => False)) (F0 m 5 ls []) := by
    intro n
    induction n with
    | zero => intro k a ls hl hm hk ha hp; exact absurd hm (Nat.not_lt_zero _)
    | succ n ih5 =>
      intro k a ls hl hm hk ha hp
      refine lv_iload hx hb dX0_numberOf_5 (lv_at hl 4 rfl) ?_
      refine lv_aload_n hx hb dX0_numberOf_7 rfl (lv_at hl 0 rfl) ?_
      refine zg0_0 X hK hW m_56 dX0_numberOf_8 ?_
      refine lv_icmp_ge (tgt := 42) hx hb dX0_numberOf_11 (by decide) (fun b1 => ?_) (fun b1 => ?_)
      · refine lv_iconst (v := (-1)) hx hb dX0_numberOf_42 (by decide) ?_
        exact ze_i hx hb hr hlocks (by rw [k_num, ← zge_of hc (by decide) hk b1, zfst_no hp]) dX0_numberOf_43
      · have hlt : k < zn σ 0 := zlt_of hc (by decide) hk b1
        have hltN := Nat.lt_of_lt_of_le hlt hc.2
        refine lv_aload_n hx hb dX0_numberOf_14 rfl (lv_at hl 0 rfl) ?_
        refine zg0_1 X hK hW m_58 dX0_numberOf_15 ?_
        refine lv_iload hx hb dX0_numberOf_18 (lv_at hl 4 rfl) ?_
        refine zan6 X hK hW (by omega) dX0_numberOf_20 ?_
        refine lv_iload_n hx hb dX0_numberOf_21 rfl (lv_at hl 1 rfl) ?_
        refine lv_icmp_ne (tgt := 36) hx hb dX0_numberOf_22 (by decide) (fun b2 => ?_) (fun b2 => ?_)
        · refine lv_iinc (v := nI (k + 1)) (lv' := [(4, .int (nI (k + 1))), (0, .ref (ad 5 0)), (1, .int x), (2, .int j), (3, .int a)]) hx hb dX0_numberOf_36 hl (k := 4) rfl (nI_1 k) (by decide) rfl (fun ls hl => ?_)
          refine lv_goto (tgt := 5) hx hb dX0_numberOf_39 (by decide) ?_
          exact ih5 (k + 1) a _ (lv_sub hl [1, 2, 3, 4, 0] rfl) (by omega) hlt (by rw [ha, zct, if_neg (by simp [k_own, b1, Int32.not_le.mp b1, b2, Ne.symm b2]), Nat.add_zero]) (lt_s hp (by simp [k_own, ← ha, b1, Int32.not_le.mp b1, b2, Ne.symm b2]))
        · refine lv_iload_n hx hb dX0_numberOf_25 rfl (lv_at hl 3 rfl) ?_
          refine lv_iload_n hx hb dX0_numberOf_26 rfl (lv_at hl 2 rfl) ?_
          refine lv_icmp_ne (tgt := 33) hx hb dX0_numberOf_27 (by decide) (fun b3 => ?_) (fun b3 => ?_)
          · refine lv_iinc (v := a + 1) (lv' := [(3, .int (a + 1)), (0, .ref (ad 5 0)), (1, .int x), (2, .int j), (4, .int (nI k))]) hx hb dX0_numberOf_33 hl (k := 3) rfl rfl (by decide) rfl (fun ls hl => ?_)
            refine lv_iinc (v := nI (k + 1)) (lv' := [(4, .int (nI (k + 1))), (3, .int (a + 1)), (0, .ref (ad 5 0)), (1, .int x), (2, .int j)]) hx hb dX0_numberOf_36 hl (k := 4) rfl (nI_1 k) (by decide) rfl (fun ls hl => ?_)
            refine lv_goto (tgt := 5) hx hb dX0_numberOf_39 (by decide) ?_
            exact ih5 (k + 1) (a + 1) _ (lv_sub hl [2, 3, 4, 1, 0] rfl) (by omega) hlt (by rw [ha, zct, if_pos (by simp [k_own, b1, Int32.not_le.mp b1, b2, b3, Ne.symm b3]), ← nI_1]) (lt_s hp (by simp [k_own, ← ha, b1, Int32.not_le.mp b1, b2, b3, Ne.symm b3]))
          · refine lv_iload hx hb dX0_numberOf_30 (lv_at hl 4 rfl) ?_
            exact ze_i hx hb hr hlocks (by rw [k_num, zfst_at (by omega) (by simp [k_own, ← ha, b1, Int32.not_le.mp b1, b2, b3]) hp hlt]) dX0_numberOf_32
  exact loop5 _ 0 0 _ (lv_sub hl [2, 3, 4, 1, 0] rfl) (Nat.lt_succ_self _) (Nat.zero_le _) rfl (fun i h => absurd h (Nat.not_lt_zero _))
theorem zmX0_lookUp : zmV yX0_lookUp RX0 cX0_lookUp 6 (some .int) 3 := ⟨m_1126, m_1127, m_3, m_1128, rfl, by decide, by decide, by decide +kernel⟩
set_option maxRecDepth 100000 in
set_option maxHeartbeats 4000000 in
theorem ctX0_lookUp (l : Launch) (D : va_G) (cy : Nat → ClassId) (ad : Nat → Nat → Nat) (σ : zS) (x : Int32) (j : Int32) (w : Int32) (hc : zbd σ 0 86) : Met l yX0_lookUp (zw yX0_lookUp cX0_lookUp 6 (some .int)) (zrm 1) (va_Pc [.ref (ad 5 0), .int x, .int j, .int w] (zB D cy (zW D cy ad zsL σ))) (zqR (.int (k_look σ x j w))) 0 0 (fun _ => False) := by
  refine zmet (by decide) rfl (Nat.le_of_ble_eq_true rfl) rfl (fun p e s m below meth c ls X hml hr hlocks hv hl => ?_)
  obtain ⟨hK, hW⟩ := hv
  obtain ⟨hx, hb, -, -⟩ := id X
  have hl : lv_has ls 6 [(0, .ref (ad 5 0)), (1, .int x), (2, .int j), (3, .int w)] := hl
  refine lv_aload_n hx hb dX0_lookUp_0 rfl (lv_at hl 0 rfl) ?_
  refine lv_iload_n hx hb dX0_lookUp_1 rfl (lv_at hl 1 rfl) ?_
  refine lv_iload_n hx hb dX0_lookUp_2 rfl (lv_at hl 2 rfl) ?_
  refine zcallRV (As := [.int x, .int j]) (rest := []) X hml hK hW (ctX0_numberOf l D cy ad σ x j hc) zmX0_numberOf (by decide) m_1129 (zrecv hK (hW 5 0 rfl (by decide)) rfl) ⟨Nat.le_of_ble_eq_true rfl, Nat.le_of_ble_eq_true rfl⟩ ⟨Nat.zero_le _, Nat.zero_le _⟩ rfl hl.1 rfl (Nat.le_of_ble_eq_true rfl) dX0_lookUp_3 ?_
  refine lv_istore (lv' := [(4, .int (k_num σ x j)), (0, .ref (ad 5 0)), (1, .int x), (2, .int j), (3, .int w)]) hx hb dX0_lookUp_6 hl (by decide) rfl (fun ls hl => ?_)
  refine lv_aload_n hx hb dX0_lookUp_8 rfl (lv_at hl 1 rfl) ?_
  refine lv_iload hx hb dX0_lookUp_9 (lv_at hl 0 rfl) ?_
  refine zcallRV (As := [.int (k_num σ x j)]) (rest := []) X hml hK hW (ctX0_has l D cy ad σ (k_num σ x j)) zmX0_has (by decide) m_1133 (zrecv hK (hW 5 0 rfl (by decide)) rfl) ⟨Nat.le_of_ble_eq_true rfl, Nat.le_of_ble_eq_true rfl⟩ ⟨Nat.zero_le _, Nat.zero_le _⟩ rfl hl.1 rfl (Nat.le_of_ble_eq_true rfl) dX0_lookUp_11 ?_
  refine zb_ne (tgt := 19) hx hb dX0_lookUp_14 (by decide) (fun b1 => ?_) (fun b1 => ?_)
  · have hin := zhas_in hc (by decide) b1
    obtain ⟨q, hq86, hqe⟩ := vp_in_of hin (by decide)
    refine lv_iload_n hx hb dX0_lookUp_19 rfl (lv_at hl 4 rfl) ?_
    refine lv_bipush (v := 104) hx hb dX0_lookUp_20 (by decide) ?_
    refine lv_icmp_ne (tgt := 33) hx hb dX0_lookUp_22 (by decide) (fun b2 => ?_) (fun b2 => ?_)
    · refine lv_iload_n hx hb dX0_lookUp_33 rfl (lv_at hl 4 rfl) ?_
      refine lv_bipush (v := 100) hx hb dX0_lookUp_34 (by decide) ?_
      refine lv_icmp_ne (tgt := 47) hx hb dX0_lookUp_36 (by decide) (fun b3 => ?_) (fun b3 => ?_)
      · refine lv_iload_n hx hb dX0_lookUp_47 rfl (lv_at hl 4 rfl) ?_
        refine lv_bipush (v := 48) hx hb dX0_lookUp_48 (by decide) ?_
        refine lv_isub hx hb dX0_lookUp_50 ?_
        refine lv_istore (lv' := [(5, .int (w - 48)), (4, .int (k_num σ x j)), (0, .ref (ad 5 0)), (1, .int x), (2, .int j), (3, .int w)]) hx hb dX0_lookUp_51 hl (by decide) rfl (fun ls hl => ?_)
        refine lv_iload hx hb dX0_lookUp_53 (lv_at hl 0 rfl) ?_
        refine lv_if_lt (tgt := 64) hx hb dX0_lookUp_55 (by decide) (fun b4 => ?_) (fun b4 => ?_)
        · refine lv_iconst (v := 0) hx hb dX0_lookUp_64 (by decide) ?_
          exact ze_i hx hb hr hlocks (by simp [k_look, b1, b2, Ne.symm b2, b3, Ne.symm b3, b4, Int32.not_le.mpr b4]) dX0_lookUp_65
        · refine lv_iload hx hb dX0_lookUp_58 (lv_at hl 0 rfl) ?_
          refine lv_iconst (v := 5) hx hb dX0_lookUp_60 (by decide) ?_
          refine lv_icmp_lt (tgt := 66) hx hb dX0_lookUp_61 (by decide) (fun b5 => ?_) (fun b5 => ?_)
          · refine lv_aload_n hx hb dX0_lookUp_66 rfl (lv_at hl 2 rfl) ?_
            refine zg0_4 X hK hW m_63 dX0_lookUp_67 ?_
            refine lv_iload hx hb dX0_lookUp_70 (lv_at hl 1 rfl) ?_
            refine lv_iconst (v := 5) hx hb dX0_lookUp_72 (by decide) ?_
            refine lv_imul hx hb dX0_lookUp_73 ?_
            refine lv_iload hx hb dX0_lookUp_74 (lv_at hl 0 rfl) ?_
            refine lv_iadd hx hb dX0_lookUp_76 ?_
            have h5 : vp_in (k_num σ x j * 5 + (w - 48)) 430 := by
              obtain ⟨i, hi5, hie⟩ := nI_of b4
              rw [hqe, hie, zmul5]
              have : i < 5 := by
                have h9 := b5
                rw [hie, show (5 : Int32) = nI 5 from rfl] at h9
                exact (nI_ltI hi5 (by decide)).mp h9
              exact vp_in_nI (by omega) (by decide)
            refine za9 X hK hW h5 dX0_lookUp_77 ?_
            exact ze_i hx hb hr hlocks (by simp [k_look, b1, b2, Ne.symm b2, b3, Ne.symm b3, b4, Int32.not_lt.mp b4, b5, Int32.not_le.mpr b5]) dX0_lookUp_78
          · refine lv_iconst (v := 0) hx hb dX0_lookUp_64 (by decide) ?_
            exact ze_i hx hb hr hlocks (by simp [k_look, b1, b2, Ne.symm b2, b3, Ne.symm b3, b4, Int32.not_lt.mp b4, b5, Int32.not_lt.mp b5]) dX0_lookUp_65
      · refine lv_aload_n hx hb dX0_lookUp_39 rfl (lv_at hl 1 rfl) ?_
        refine zg0_3 X hK hW m_61 dX0_lookUp_40 ?_
        refine lv_iload hx hb dX0_lookUp_43 (lv_at hl 0 rfl) ?_
        refine za8 X hK hW hin dX0_lookUp_45 ?_
        exact ze_i hx hb hr hlocks (by simp [k_look, b1, b2, Ne.symm b2, b3]) dX0_lookUp_46
    · refine lv_aload_n hx hb dX0_lookUp_25 rfl (lv_at hl 1 rfl) ?_
      refine zg0_2 X hK hW m_59 dX0_lookUp_26 ?_
      refine lv_iload hx hb dX0_lookUp_29 (lv_at hl 0 rfl) ?_
      refine za7 X hK hW hin dX0_lookUp_31 ?_
      exact ze_i hx hb hr hlocks (by simp [k_look, b1, b2]) dX0_lookUp_32
  · refine lv_iconst (v := 0) hx hb dX0_lookUp_17 (by decide) ?_
    exact ze_i hx hb hr hlocks (by simp [k_look, b1]) dX0_lookUp_18
theorem zmX3_goesBy : zmV yX3_goesBy RX3 cX3_goesBy 3 (some .boolean) 2 := ⟨m_425, m_426, m_7, m_427, rfl, by decide, by decide, by decide +kernel⟩
set_option maxRecDepth 100000 in
set_option maxHeartbeats 4000000 in
theorem ctX3_goesBy (l : Launch) (D : va_G) (cy : Nat → ClassId) (ad : Nat → Nat → Nat) (σ : zS) (f : Nat) (hi_f : f < 12) (lv0 : Int32) (ch : Int32) : Met l yX3_goesBy (zw yX3_goesBy cX3_goesBy 3 (some .boolean)) (zrm 0) (va_Pc [.ref (ad 16 f), .int lv0, .int ch] (zB D cy (zW D cy ad zsL σ))) (zqR (.int (bI (k_goes σ f lv0 ch)))) 0 0 (fun _ => False) := by
  refine zmet (by decide) rfl (Nat.le_of_ble_eq_true rfl) rfl (fun p e s m below meth c ls X hml hr hlocks hv hl => ?_)
  obtain ⟨hK, hW⟩ := hv
  obtain ⟨hx, hb, -, -⟩ := id X
  have hl : lv_has ls 3 [(0, .ref (ad 16 f)), (1, .int lv0), (2, .int ch)] := hl
  refine lv_aload_n hx hb dX3_goesBy_0 rfl (lv_at hl 0 rfl) ?_
  refine zg3_3 X hK hW hi_f m_219 dX3_goesBy_1 ?_
  refine lv_bipush (v := 45) hx hb dX3_goesBy_4 (by decide) ?_
  refine lv_icmp_ne (tgt := 25) hx hb dX3_goesBy_6 (by decide) (fun b1 => ?_) (fun b1 => ?_)
  · refine lv_aload_n hx hb dX3_goesBy_25 rfl (lv_at hl 0 rfl) ?_
    refine zg3_3 X hK hW hi_f m_219 dX3_goesBy_26 ?_
    refine lv_iload_n hx hb dX3_goesBy_29 rfl (lv_at hl 2 rfl) ?_
    refine lv_icmp_ne (tgt := 37) hx hb dX3_goesBy_30 (by decide) (fun b2 => ?_) (fun b2 => ?_)
    · refine lv_iconst (v := 0) hx hb dX3_goesBy_37 (by decide) ?_
      exact ze_z hx hb hr hlocks (by simp [bI_t, bI_f, k_goes, b1, Ne.symm b1, b2, Ne.symm b2]) dX3_goesBy_38
    · refine lv_iconst (v := 1) hx hb dX3_goesBy_33 (by decide) ?_
      refine lv_goto (tgt := 38) hx hb dX3_goesBy_34 (by decide) ?_
      exact ze_z hx hb hr hlocks (by simp [bI_t, bI_f, k_goes, b1, Ne.symm b1, b2.symm]) dX3_goesBy_38
  · refine lv_aload_n hx hb dX3_goesBy_9 rfl (lv_at hl 0 rfl) ?_
    refine zg3_2 X hK hW hi_f m_216 dX3_goesBy_10 ?_
    refine lv_iload_n hx hb dX3_goesBy_13 rfl (lv_at hl 1 rfl) ?_
    refine lv_icmp_lt (tgt := 21) hx hb dX3_goesBy_14 (by decide) (fun b3 => ?_) (fun b3 => ?_)
    · refine lv_iconst (v := 0) hx hb dX3_goesBy_21 (by decide) ?_
      refine lv_goto (tgt := 38) hx hb dX3_goesBy_22 (by decide) ?_
      exact ze_z hx hb hr hlocks (by simp [bI_t, bI_f, k_goes, b1, b3, Int32.not_le.mpr b3]) dX3_goesBy_38
    · refine lv_iconst (v := 1) hx hb dX3_goesBy_17 (by decide) ?_
      refine lv_goto (tgt := 38) hx hb dX3_goesBy_18 (by decide) ?_
      exact ze_z hx hb hr hlocks (by simp [bI_t, bI_f, k_goes, b1, b3, Int32.not_lt.mp b3]) dX3_goesBy_38
theorem zmX5_daysLeft : zmV yX5_daysLeft RX5 cX5_daysLeft 2 (some .int) 1 := ⟨m_410, s_0, m_2, m_411, rfl, by decide, by decide, by decide +kernel⟩
set_option maxRecDepth 100000 in
set_option maxHeartbeats 4000000 in
theorem ctX5_daysLeft (l : Launch) (D : va_G) (cy : Nat → ClassId) (ad : Nat → Nat → Nat) (σ : zS) (u : Nat) (hi_u : u < 24) (hc : zbd σ 0 86) : Met l yX5_daysLeft (zw yX5_daysLeft cX5_daysLeft 2 (some .int)) (zrm 1) (va_Pc [.ref (ad 0 0), .ref (ad 11 u)] (zB D cy (zW D cy ad zsL σ))) (zqR (.int (k_left σ u))) 0 0 (fun _ => False) := by
  refine zmet (by decide) rfl (Nat.le_of_ble_eq_true rfl) rfl (fun p e s m below meth c ls X hml hr hlocks hv hl => ?_)
  obtain ⟨hK, hW⟩ := hv
  obtain ⟨hx, hb, -, -⟩ := id X
  have hl : lv_has ls 2 [(0, .ref (ad 0 0)), (1, .ref (ad 11 u))] := hl
  refine lv_aload_n hx hb dX5_daysLeft_0 rfl (lv_at hl 0 rfl) ?_
  refine zg5_4 X hK hW m_253 dX5_daysLeft_1 ?_
  refine lv_aload_n hx hb dX5_daysLeft_4 rfl (lv_at hl 1 rfl) ?_
  refine zg1_10 X hK hW hi_u m_121 dX5_daysLeft_5 ?_
  refine zcallRV (As := [.int (zI σ 110 u)]) (rest := []) X hml hK hW (ctX0_has l D cy ad σ (zI σ 110 u)) zmX0_has (by decide) m_412 (zrecv hK (hW 5 0 rfl (by decide)) rfl) ⟨Nat.le_of_ble_eq_true rfl, Nat.le_of_ble_eq_true rfl⟩ ⟨Nat.zero_le _, Nat.zero_le _⟩ rfl hl.1 rfl (Nat.le_of_ble_eq_true rfl) dX5_daysLeft_8 ?_
  refine zb_ne (tgt := 16) hx hb dX5_daysLeft_11 (by decide) (fun b1 => ?_) (fun b1 => ?_)
  · refine lv_aload_n hx hb dX5_daysLeft_16 rfl (lv_at hl 0 rfl) ?_
    refine zg5_10 X hK hW m_266 dX5_daysLeft_17 ?_
    refine lv_aload_n hx hb dX5_daysLeft_20 rfl (lv_at hl 0 rfl) ?_
    refine zg5_9 X hK hW m_264 dX5_daysLeft_21 ?_
    refine lv_aload_n hx hb dX5_daysLeft_24 rfl (lv_at hl 0 rfl) ?_
    refine zg5_4 X hK hW m_253 dX5_daysLeft_25 ?_
    refine zg0_3 X hK hW m_62 dX5_daysLeft_28 ?_
    refine lv_aload_n hx hb dX5_daysLeft_31 rfl (lv_at hl 1 rfl) ?_
    refine zg1_10 X hK hW hi_u m_121 dX5_daysLeft_32 ?_
    have hin := zhas_in hc (by decide) b1
    refine za8 X hK hW hin dX5_daysLeft_35 ?_
    refine lv_isub hx hb dX5_daysLeft_36 ?_
    refine lv_isub hx hb dX5_daysLeft_37 ?_
    exact ze_i hx hb hr hlocks (by simp [k_left, b1]) dX5_daysLeft_38
  · refine lv_iconst (v := 0) hx hb dX5_daysLeft_14 (by decide) ?_
    exact ze_i hx hb hr hlocks (by simp [k_left, b1]) dX5_daysLeft_15
theorem zmX5_isTooOld : zmV yX5_isTooOld RX5 cX5_isTooOld 3 (some .boolean) 1 := ⟨m_405, m_406, m_2, m_407, rfl, by decide, by decide, by decide +kernel⟩
set_option maxRecDepth 100000 in
set_option maxHeartbeats 4000000 in
theorem ctX5_isTooOld (l : Launch) (D : va_G) (cy : Nat → ClassId) (ad : Nat → Nat → Nat) (σ : zS) (u : Nat) (hi_u : u < 24) (hc : zbd σ 0 86) : Met l yX5_isTooOld (zw yX5_isTooOld cX5_isTooOld 3 (some .boolean)) (zrm 2) (va_Pc [.ref (ad 0 0), .ref (ad 11 u)] (zB D cy (zW D cy ad zsL σ))) (zqR (.int (bI (k_old σ u)))) 0 0 (fun _ => False) := by
  refine zmet (by decide) rfl (Nat.le_of_ble_eq_true rfl) rfl (fun p e s m below meth c ls X hml hr hlocks hv hl => ?_)
  obtain ⟨hK, hW⟩ := hv
  obtain ⟨hx, hb, -, -⟩ := id X
  have hl : lv_has ls 3 [(0, .ref (ad 0 0)), (1, .ref (ad 11 u))] := hl
  refine lv_aload_n hx hb dX5_isTooOld_0 rfl (lv_at hl 0 rfl) ?_
  refine zg5_9 X hK hW m_264 dX5_isTooOld_1 ?_
  refine lv_aload_n hx hb dX5_isTooOld_4 rfl (lv_at hl 1 rfl) ?_
  refine zg1_4 X hK hW hi_u m_104 dX5_isTooOld_5 ?_
  refine lv_isub hx hb dX5_isTooOld_8 ?_
  refine lv_aload_n hx hb dX5_isTooOld_9 rfl (lv_at hl 1 rfl) ?_
  refine zg1_3 X hK hW hi_u m_102 dX5_isTooOld_10 ?_
  refine lv_icmp_le (tgt := 18) hx hb dX5_isTooOld_13 (by decide) (fun b1 => ?_) (fun b1 => ?_)
  · refine lv_aload_n hx hb dX5_isTooOld_18 rfl (lv_at hl 1 rfl) ?_
    refine zg1_5 X hK hW hi_u m_107 dX5_isTooOld_19 ?_
    refine lv_bipush (v := 111) hx hb dX5_isTooOld_22 (by decide) ?_
    refine lv_icmp_eq (tgt := 40) hx hb dX5_isTooOld_24 (by decide) (fun b2 => ?_) (fun b2 => ?_)
    · refine lv_iconst (v := 0) hx hb dX5_isTooOld_40 (by decide) ?_
      refine lv_istore_n (lv' := [(2, .int 0), (0, .ref (ad 0 0)), (1, .ref (ad 11 u))]) hx hb dX5_isTooOld_41 rfl hl (by decide) rfl (fun ls hl => ?_)
      refine lv_aload_n hx hb dX5_isTooOld_42 rfl (lv_at hl 2 rfl) ?_
      refine zg1_0 X hK hW hi_u m_96 dX5_isTooOld_43 ?_
      refine lv_bipush (v := 114) hx hb dX5_isTooOld_46 (by decide) ?_
      refine lv_icmp_ne (tgt := 67) hx hb dX5_isTooOld_48 (by decide) (fun b3 => ?_) (fun b3 => ?_)
      · refine lv_iconst (v := 0) hx hb dX5_isTooOld_67 (by decide) ?_
        exact ze_z hx hb hr hlocks (by simp [bI_t, bI_f, k_old, b1, Int32.not_lt.mpr b1, b2, b3, Ne.symm b3]) dX5_isTooOld_68
      · refine lv_iload_n hx hb dX5_isTooOld_51 rfl (lv_at hl 0 rfl) ?_
        refine lv_if_eq (tgt := 67) hx hb dX5_isTooOld_52 (by decide) (fun _ => ?_) (fun h => absurd h (by decide))
        refine lv_iconst (v := 0) hx hb dX5_isTooOld_67 (by decide) ?_
        exact ze_z hx hb hr hlocks (by simp [bI_t, bI_f, k_old, b1, Int32.not_lt.mpr b1, b2, b3]) dX5_isTooOld_68
    · refine lv_aload_n hx hb dX5_isTooOld_27 rfl (lv_at hl 1 rfl) ?_
      refine zg1_5 X hK hW hi_u m_107 dX5_isTooOld_28 ?_
      refine lv_bipush (v := 112) hx hb dX5_isTooOld_31 (by decide) ?_
      refine lv_icmp_eq (tgt := 40) hx hb dX5_isTooOld_33 (by decide) (fun b5 => ?_) (fun b5 => ?_)
      · refine lv_iconst (v := 0) hx hb dX5_isTooOld_40 (by decide) ?_
        refine lv_istore_n (lv' := [(2, .int 0), (0, .ref (ad 0 0)), (1, .ref (ad 11 u))]) hx hb dX5_isTooOld_41 rfl hl (by decide) rfl (fun ls hl => ?_)
        refine lv_aload_n hx hb dX5_isTooOld_42 rfl (lv_at hl 2 rfl) ?_
        refine zg1_0 X hK hW hi_u m_96 dX5_isTooOld_43 ?_
        refine lv_bipush (v := 114) hx hb dX5_isTooOld_46 (by decide) ?_
        refine lv_icmp_ne (tgt := 67) hx hb dX5_isTooOld_48 (by decide) (fun b6 => ?_) (fun b6 => ?_)
        · refine lv_iconst (v := 0) hx hb dX5_isTooOld_67 (by decide) ?_
          exact ze_z hx hb hr hlocks (by simp [bI_t, bI_f, k_old, b1, Int32.not_lt.mpr b1, b2, Ne.symm b2, b5, b6, Ne.symm b6]) dX5_isTooOld_68
        · refine lv_iload_n hx hb dX5_isTooOld_51 rfl (lv_at hl 0 rfl) ?_
          refine lv_if_eq (tgt := 67) hx hb dX5_isTooOld_52 (by decide) (fun _ => ?_) (fun h => absurd h (by decide))
          refine lv_iconst (v := 0) hx hb dX5_isTooOld_67 (by decide) ?_
          exact ze_z hx hb hr hlocks (by simp [bI_t, bI_f, k_old, b1, Int32.not_lt.mpr b1, b2, Ne.symm b2, b5, b6]) dX5_isTooOld_68
      · refine lv_iconst (v := 1) hx hb dX5_isTooOld_36 (by decide) ?_
        refine lv_goto (tgt := 41) hx hb dX5_isTooOld_37 (by decide) ?_
        refine lv_istore_n (lv' := [(2, .int 1), (0, .ref (ad 0 0)), (1, .ref (ad 11 u))]) hx hb dX5_isTooOld_41 rfl hl (by decide) rfl (fun ls hl => ?_)
        refine lv_aload_n hx hb dX5_isTooOld_42 rfl (lv_at hl 2 rfl) ?_
        refine zg1_0 X hK hW hi_u m_96 dX5_isTooOld_43 ?_
        refine lv_bipush (v := 114) hx hb dX5_isTooOld_46 (by decide) ?_
        refine lv_icmp_ne (tgt := 67) hx hb dX5_isTooOld_48 (by decide) (fun b8 => ?_) (fun b8 => ?_)
        · refine lv_iconst (v := 0) hx hb dX5_isTooOld_67 (by decide) ?_
          exact ze_z hx hb hr hlocks (by simp [bI_t, bI_f, k_old, b1, Int32.not_lt.mpr b1, b2, Ne.symm b2, b5, Ne.symm b5, b8, Ne.symm b8]) dX5_isTooOld_68
        · refine lv_iload_n hx hb dX5_isTooOld_51 rfl (lv_at hl 0 rfl) ?_
          refine lv_if_eq (tgt := 67) hx hb dX5_isTooOld_52 (by decide) (fun h => absurd h (by decide)) (fun _ => ?_)
          refine lv_aload_n hx hb dX5_isTooOld_55 rfl (lv_at hl 1 rfl) ?_
          refine lv_aload_n hx hb dX5_isTooOld_56 rfl (lv_at hl 2 rfl) ?_
          refine zcallRV (As := [.ref (ad 11 u)]) (rest := []) X hml hK hW (ctX5_daysLeft l D cy ad σ u hi_u hc) zmX5_daysLeft (by decide) m_408 (zrecv hK (hW 0 0 rfl (by decide)) rfl) ⟨Nat.le_of_ble_eq_true rfl, Nat.le_of_ble_eq_true rfl⟩ ⟨Nat.zero_le _, Nat.zero_le _⟩ rfl hl.1 rfl (Nat.le_of_ble_eq_true rfl) dX5_isTooOld_57 ?_
          refine lv_if_ge (tgt := 67) hx hb dX5_isTooOld_60 (by decide) (fun b10 => ?_) (fun b10 => ?_)
          · refine lv_iconst (v := 0) hx hb dX5_isTooOld_67 (by decide) ?_
            exact ze_z hx hb hr hlocks (by simp [bI_t, bI_f, k_old, b1, Int32.not_lt.mpr b1, b2, Ne.symm b2, b5, Ne.symm b5, b8, b10, Int32.not_lt.mpr b10]) dX5_isTooOld_68
          · refine lv_iconst (v := 1) hx hb dX5_isTooOld_63 (by decide) ?_
            refine lv_goto (tgt := 68) hx hb dX5_isTooOld_64 (by decide) ?_
            exact ze_z hx hb hr hlocks (by simp [bI_t, bI_f, k_old, b1, Int32.not_lt.mpr b1, b2, Ne.symm b2, b5, Ne.symm b5, b8, b10, Int32.not_le.mp b10]) dX5_isTooOld_68
  · refine lv_iconst (v := 1) hx hb dX5_isTooOld_16 (by decide) ?_
    exact ze_z hx hb hr hlocks (by simp [bI_t, bI_f, k_old, b1, Int32.not_le.mp b1]) dX5_isTooOld_17
theorem zmX5_isReachedBy : zmV yX5_isReachedBy RX5 cX5_isReachedBy 6 (some .boolean) 2 := ⟨m_422, s_1, m_2, m_423, rfl, by decide, by decide, by decide +kernel⟩
set_option maxRecDepth 100000 in
set_option maxHeartbeats 4000000 in
theorem ctX5_isReachedBy (l : Launch) (D : va_G) (cy : Nat → ClassId) (ad : Nat → Nat → Nat) (σ : zS) (f : Nat) (hi_f : f < 12) (u : Nat) (hi_u : u < 24) (hV : zV σ) (hf : f < zn σ 508) : Met l yX5_isReachedBy (zw yX5_isReachedBy cX5_isReachedBy 6 (some .boolean)) (zrm 2) (va_Pc [.ref (ad 0 0), .ref (ad 16 f), .int (nI u)] (zB D cy (zW D cy ad zsL σ))) (zqR (.int (bI (k_reach σ f u)))) 0 0 (fun _ => False) := by
  refine zmet (by decide) rfl (Nat.le_of_ble_eq_true rfl) rfl (fun p e s m below meth c ls X hml hr hlocks hv hl => ?_)
  obtain ⟨hK, hW⟩ := hv
  obtain ⟨hx, hb, -, -⟩ := id X
  have hl : lv_has ls 6 [(0, .ref (ad 0 0)), (1, .ref (ad 16 f)), (2, .int (nI u))] := hl
  refine lv_aload_n hx hb dX5_isReachedBy_0 rfl (lv_at hl 1 rfl) ?_
  refine zg3_4 X hK hW hi_f m_224 dX5_isReachedBy_1 ?_
  refine lv_if_eq (tgt := 9) hx hb dX5_isReachedBy_4 (by decide) (fun b1 => ?_) (fun b1 => ?_)
  · refine lv_aload_n hx hb dX5_isReachedBy_9 rfl (lv_at hl 1 rfl) ?_
    refine zg3_0 X hK hW hi_f m_212 dX5_isReachedBy_10 ?_
    refine lv_iload_n hx hb dX5_isReachedBy_13 rfl (lv_at hl 2 rfl) ?_
    refine lv_icmp_ne (tgt := 19) hx hb dX5_isReachedBy_14 (by decide) (fun b2 => ?_) (fun b2 => ?_)
    · refine lv_aload_n hx hb dX5_isReachedBy_19 rfl (lv_at hl 0 rfl) ?_
      refine zg5_1 X hK hW m_246 dX5_isReachedBy_20 ?_
      refine lv_aload_n hx hb dX5_isReachedBy_23 rfl (lv_at hl 1 rfl) ?_
      refine zg3_0 X hK hW hi_f m_212 dX5_isReachedBy_24 ?_
      refine zr2 X hK hW (hV.2.2.2.2.2.1 f hf) dX5_isReachedBy_27 ?_
      refine lv_astore_n (lv' := [(3, .ref (ad 11 ((zI σ 300 f).toNatClampNeg))), (0, .ref (ad 0 0)), (1, .ref (ad 16 f)), (2, .int (nI u))]) hx hb dX5_isReachedBy_28 rfl hl (by decide) rfl (fun ls hl => ?_)
      refine lv_aload_n hx hb dX5_isReachedBy_29 rfl (lv_at hl 1 rfl) ?_
      refine zg5_1 X hK hW m_246 dX5_isReachedBy_30 ?_
      refine lv_iload_n hx hb dX5_isReachedBy_33 rfl (lv_at hl 3 rfl) ?_
      refine zrn2 X hK hW hi_u dX5_isReachedBy_34 ?_
      refine lv_astore (lv' := [(4, .ref (ad 11 u)), (3, .ref (ad 11 ((zI σ 300 f).toNatClampNeg))), (0, .ref (ad 0 0)), (1, .ref (ad 16 f)), (2, .int (nI u))]) hx hb dX5_isReachedBy_35 hl (by decide) rfl (fun ls hl => ?_)
      refine lv_aload_n hx hb dX5_isReachedBy_37 rfl (lv_at hl 3 rfl) ?_
      refine lv_iconst (v := 1) hx hb dX5_isReachedBy_38 (by decide) ?_
      refine lv_bipush (v := 108) hx hb dX5_isReachedBy_39 (by decide) ?_
      refine zcallRV (As := [.int 1, .int 108]) (rest := []) X hml hK hW (ctX3_goesBy l D cy ad σ f hi_f 1 108) zmX3_goesBy (by decide) m_424 (zrecv hK (hW 16 f rfl hi_f) rfl) ⟨Nat.le_of_ble_eq_true rfl, Nat.le_of_ble_eq_true rfl⟩ ⟨Nat.zero_le _, Nat.zero_le _⟩ rfl hl.1 rfl (Nat.le_of_ble_eq_true rfl) dX5_isReachedBy_41 ?_
      refine zb_eq (tgt := 61) hx hb dX5_isReachedBy_44 (by decide) (fun b3 => ?_) (fun b3 => ?_)
      · refine lv_aload_n hx hb dX5_isReachedBy_61 rfl (lv_at hl 3 rfl) ?_
        refine lv_iconst (v := 4) hx hb dX5_isReachedBy_62 (by decide) ?_
        refine lv_bipush (v := 99) hx hb dX5_isReachedBy_63 (by decide) ?_
        refine zcallRV (As := [.int 4, .int 99]) (rest := []) X hml hK hW (ctX3_goesBy l D cy ad σ f hi_f 4 99) zmX3_goesBy (by decide) m_424 (zrecv hK (hW 16 f rfl hi_f) rfl) ⟨Nat.le_of_ble_eq_true rfl, Nat.le_of_ble_eq_true rfl⟩ ⟨Nat.zero_le _, Nat.zero_le _⟩ rfl hl.1 rfl (Nat.le_of_ble_eq_true rfl) dX5_isReachedBy_65 ?_
        refine zb_eq (tgt := 85) hx hb dX5_isReachedBy_68 (by decide) (fun b4 => ?_) (fun b4 => ?_)
        · refine lv_aload_n hx hb dX5_isReachedBy_85 rfl (lv_at hl 3 rfl) ?_
          refine zg3_1 X hK hW hi_f m_215 dX5_isReachedBy_86 ?_
          refine lv_istore (lv' := [(5, .int (zI σ 301 f)), (4, .ref (ad 11 u)), (3, .ref (ad 11 ((zI σ 300 f).toNatClampNeg))), (0, .ref (ad 0 0)), (1, .ref (ad 16 f)), (2, .int (nI u))]) hx hb dX5_isReachedBy_89 hl (by decide) rfl (fun ls hl => ?_)
          refine lv_aload_n hx hb dX5_isReachedBy_91 rfl (lv_at hl 3 rfl) ?_
          refine zg5_4 X hK hW m_253 dX5_isReachedBy_92 ?_
          refine lv_iload hx hb dX5_isReachedBy_95 (lv_at hl 0 rfl) ?_
          refine zcallRV (As := [.int (zI σ 301 f)]) (rest := []) X hml hK hW (ctX0_has l D cy ad σ (zI σ 301 f)) zmX0_has (by decide) m_412 (zrecv hK (hW 5 0 rfl (by decide)) rfl) ⟨Nat.le_of_ble_eq_true rfl, Nat.le_of_ble_eq_true rfl⟩ ⟨Nat.zero_le _, Nat.zero_le _⟩ rfl hl.1 rfl (Nat.le_of_ble_eq_true rfl) dX5_isReachedBy_97 ?_
          refine zb_ne (tgt := 105) hx hb dX5_isReachedBy_100 (by decide) (fun b5 => ?_) (fun b5 => ?_)
          · have hin := zhas_in hV.2.2.2.2.1 (by decide) b5
            refine lv_aload_n hx hb dX5_isReachedBy_105 rfl (lv_at hl 4 rfl) ?_
            refine lv_iconst (v := 2) hx hb dX5_isReachedBy_106 (by decide) ?_
            refine lv_bipush (v := 104) hx hb dX5_isReachedBy_107 (by decide) ?_
            refine zcallRV (As := [.int 2, .int 104]) (rest := []) X hml hK hW (ctX3_goesBy l D cy ad σ f hi_f 2 104) zmX3_goesBy (by decide) m_424 (zrecv hK (hW 16 f rfl hi_f) rfl) ⟨Nat.le_of_ble_eq_true rfl, Nat.le_of_ble_eq_true rfl⟩ ⟨Nat.zero_le _, Nat.zero_le _⟩ rfl hl.1 rfl (Nat.le_of_ble_eq_true rfl) dX5_isReachedBy_109 ?_
            refine zb_eq (tgt := 139) hx hb dX5_isReachedBy_112 (by decide) (fun b6 => ?_) (fun b6 => ?_)
            · refine lv_aload_n hx hb dX5_isReachedBy_139 rfl (lv_at hl 4 rfl) ?_
              refine lv_iconst (v := 3) hx hb dX5_isReachedBy_140 (by decide) ?_
              refine lv_bipush (v := 114) hx hb dX5_isReachedBy_141 (by decide) ?_
              refine zcallRV (As := [.int 3, .int 114]) (rest := []) X hml hK hW (ctX3_goesBy l D cy ad σ f hi_f 3 114) zmX3_goesBy (by decide) m_424 (zrecv hK (hW 16 f rfl hi_f) rfl) ⟨Nat.le_of_ble_eq_true rfl, Nat.le_of_ble_eq_true rfl⟩ ⟨Nat.zero_le _, Nat.zero_le _⟩ rfl hl.1 rfl (Nat.le_of_ble_eq_true rfl) dX5_isReachedBy_143 ?_
              refine zb_eq (tgt := 173) hx hb dX5_isReachedBy_146 (by decide) (fun b7 => ?_) (fun b7 => ?_)
              · refine lv_iconst (v := 0) hx hb dX5_isReachedBy_173 (by decide) ?_
                exact ze_z hx hb hr hlocks (by simp [bI_t, bI_f, k_reach, lg_cmp_eq, b1, b2, Ne.symm b2, b3, b4, b5, b6, b7]) dX5_isReachedBy_174
              · refine lv_aload hx hb dX5_isReachedBy_149 (lv_at hl 1 rfl) ?_
                refine zg1_12 X hK hW hi_u m_125 dX5_isReachedBy_151 ?_
                refine lv_aload_n hx hb dX5_isReachedBy_154 rfl (lv_at hl 3 rfl) ?_
                refine zg5_4 X hK hW m_253 dX5_isReachedBy_155 ?_
                refine lv_iload hx hb dX5_isReachedBy_158 (lv_at hl 0 rfl) ?_
                refine zcallRV (As := [.int (zI σ 301 f)]) (rest := [.long (zL σ 112 u)]) X hml hK hW (ctX0_handsOf l D cy ad σ (zI σ 301 f) hin) zmX0_handsOf (by decide) m_428 (zrecv hK (hW 5 0 rfl (by decide)) rfl) ⟨Nat.le_of_ble_eq_true rfl, Nat.le_of_ble_eq_true rfl⟩ ⟨Nat.zero_le _, Nat.zero_le _⟩ rfl hl.1 rfl (Nat.le_of_ble_eq_true rfl) dX5_isReachedBy_160 ?_
                refine lv_land hx hb dX5_isReachedBy_163 ?_
                refine lv_lconst (v := 0) hx hb dX5_isReachedBy_164 rfl ?_
                refine W.lcmp hx hb dX5_isReachedBy_165 ?_
                refine lv_if_eq (tgt := 173) hx hb dX5_isReachedBy_166 (by decide) (fun b8 => ?_) (fun b8 => ?_)
                · refine lv_iconst (v := 0) hx hb dX5_isReachedBy_173 (by decide) ?_
                  exact ze_z hx hb hr hlocks (by simp [bI_t, bI_f, k_reach, lg_cmp_eq, b1, b2, Ne.symm b2, b3, b4, b5, b6, b7, (lg_cmp_eq _ _).mp b8]) dX5_isReachedBy_174
                · refine lv_iconst (v := 1) hx hb dX5_isReachedBy_169 (by decide) ?_
                  refine lv_goto (tgt := 174) hx hb dX5_isReachedBy_170 (by decide) ?_
                  exact ze_z hx hb hr hlocks (by simp [bI_t, bI_f, k_reach, lg_cmp_eq, b1, b2, Ne.symm b2, b3, b4, b5, b6, b7, mt (lg_cmp_eq _ _).mpr b8]) dX5_isReachedBy_174
            · refine lv_aload hx hb dX5_isReachedBy_115 (lv_at hl 1 rfl) ?_
              refine zg1_11 X hK hW hi_u m_123 dX5_isReachedBy_117 ?_
              refine lv_aload_n hx hb dX5_isReachedBy_120 rfl (lv_at hl 3 rfl) ?_
              refine zg5_4 X hK hW m_253 dX5_isReachedBy_121 ?_
              refine zg0_2 X hK hW m_60 dX5_isReachedBy_124 ?_
              refine lv_iload hx hb dX5_isReachedBy_127 (lv_at hl 0 rfl) ?_
              refine za7 X hK hW hin dX5_isReachedBy_129 ?_
              refine lv_ishr hx hb dX5_isReachedBy_130 ?_
              refine lv_iconst (v := 1) hx hb dX5_isReachedBy_131 (by decide) ?_
              refine lv_iand hx hb dX5_isReachedBy_132 ?_
              refine lv_iconst (v := 1) hx hb dX5_isReachedBy_133 (by decide) ?_
              refine lv_icmp_ne (tgt := 139) hx hb dX5_isReachedBy_134 (by decide) (fun b9 => ?_) (fun b9 => ?_)
              · refine lv_aload_n hx hb dX5_isReachedBy_139 rfl (lv_at hl 4 rfl) ?_
                refine lv_iconst (v := 3) hx hb dX5_isReachedBy_140 (by decide) ?_
                refine lv_bipush (v := 114) hx hb dX5_isReachedBy_141 (by decide) ?_
                refine zcallRV (As := [.int 3, .int 114]) (rest := []) X hml hK hW (ctX3_goesBy l D cy ad σ f hi_f 3 114) zmX3_goesBy (by decide) m_424 (zrecv hK (hW 16 f rfl hi_f) rfl) ⟨Nat.le_of_ble_eq_true rfl, Nat.le_of_ble_eq_true rfl⟩ ⟨Nat.zero_le _, Nat.zero_le _⟩ rfl hl.1 rfl (Nat.le_of_ble_eq_true rfl) dX5_isReachedBy_143 ?_
                refine zb_eq (tgt := 173) hx hb dX5_isReachedBy_146 (by decide) (fun b10 => ?_) (fun b10 => ?_)
                · refine lv_iconst (v := 0) hx hb dX5_isReachedBy_173 (by decide) ?_
                  exact ze_z hx hb hr hlocks (by simp [bI_t, bI_f, k_reach, lg_cmp_eq, b1, b2, Ne.symm b2, b3, b4, b5, b6, b9, Ne.symm b9, b10]) dX5_isReachedBy_174
                · refine lv_aload hx hb dX5_isReachedBy_149 (lv_at hl 1 rfl) ?_
                  refine zg1_12 X hK hW hi_u m_125 dX5_isReachedBy_151 ?_
                  refine lv_aload_n hx hb dX5_isReachedBy_154 rfl (lv_at hl 3 rfl) ?_
                  refine zg5_4 X hK hW m_253 dX5_isReachedBy_155 ?_
                  refine lv_iload hx hb dX5_isReachedBy_158 (lv_at hl 0 rfl) ?_
                  refine zcallRV (As := [.int (zI σ 301 f)]) (rest := [.long (zL σ 112 u)]) X hml hK hW (ctX0_handsOf l D cy ad σ (zI σ 301 f) hin) zmX0_handsOf (by decide) m_428 (zrecv hK (hW 5 0 rfl (by decide)) rfl) ⟨Nat.le_of_ble_eq_true rfl, Nat.le_of_ble_eq_true rfl⟩ ⟨Nat.zero_le _, Nat.zero_le _⟩ rfl hl.1 rfl (Nat.le_of_ble_eq_true rfl) dX5_isReachedBy_160 ?_
                  refine lv_land hx hb dX5_isReachedBy_163 ?_
                  refine lv_lconst (v := 0) hx hb dX5_isReachedBy_164 rfl ?_
                  refine W.lcmp hx hb dX5_isReachedBy_165 ?_
                  refine lv_if_eq (tgt := 173) hx hb dX5_isReachedBy_166 (by decide) (fun b11 => ?_) (fun b11 => ?_)
                  · refine lv_iconst (v := 0) hx hb dX5_isReachedBy_173 (by decide) ?_
                    exact ze_z hx hb hr hlocks (by simp [bI_t, bI_f, k_reach, lg_cmp_eq, b1, b2, Ne.symm b2, b3, b4, b5, b6, b9, Ne.symm b9, b10, (lg_cmp_eq _ _).mp b11]) dX5_isReachedBy_174
                  · refine lv_iconst (v := 1) hx hb dX5_isReachedBy_169 (by decide) ?_
                    refine lv_goto (tgt := 174) hx hb dX5_isReachedBy_170 (by decide) ?_
                    exact ze_z hx hb hr hlocks (by simp [bI_t, bI_f, k_reach, lg_cmp_eq, b1, b2, Ne.symm b2, b3, b4, b5, b6, b9, Ne.symm b9, b10, mt (lg_cmp_eq _ _).mpr b11]) dX5_isReachedBy_174
              · refine lv_iconst (v := 1) hx hb dX5_isReachedBy_137 (by decide) ?_
                exact ze_z hx hb hr hlocks (by simp [bI_t, bI_f, k_reach, lg_cmp_eq, b1, b2, Ne.symm b2, b3, b4, b5, b6, b9]) dX5_isReachedBy_138
          · refine lv_iconst (v := 0) hx hb dX5_isReachedBy_103 (by decide) ?_
            exact ze_z hx hb hr hlocks (by simp [bI_t, bI_f, k_reach, lg_cmp_eq, b1, b2, Ne.symm b2, b3, b4, b5]) dX5_isReachedBy_104
        · refine lv_aload hx hb dX5_isReachedBy_71 (lv_at hl 0 rfl) ?_
          refine zg1_1 X hK hW hi_u m_98 dX5_isReachedBy_73 ?_
          refine lv_aload_n hx hb dX5_isReachedBy_76 rfl (lv_at hl 1 rfl) ?_
          refine zg1_1 X hK hW (zvin (hV.2.2.2.2.2.1 f hf)) m_98 dX5_isReachedBy_77 ?_
          refine lv_icmp_ne (tgt := 85) hx hb dX5_isReachedBy_80 (by decide) (fun b12 => ?_) (fun b12 => ?_)
          · refine lv_aload_n hx hb dX5_isReachedBy_85 rfl (lv_at hl 3 rfl) ?_
            refine zg3_1 X hK hW hi_f m_215 dX5_isReachedBy_86 ?_
            refine lv_istore (lv' := [(5, .int (zI σ 301 f)), (4, .ref (ad 11 u)), (3, .ref (ad 11 ((zI σ 300 f).toNatClampNeg))), (0, .ref (ad 0 0)), (1, .ref (ad 16 f)), (2, .int (nI u))]) hx hb dX5_isReachedBy_89 hl (by decide) rfl (fun ls hl => ?_)
            refine lv_aload_n hx hb dX5_isReachedBy_91 rfl (lv_at hl 3 rfl) ?_
            refine zg5_4 X hK hW m_253 dX5_isReachedBy_92 ?_
            refine lv_iload hx hb dX5_isReachedBy_95 (lv_at hl 0 rfl) ?_
            refine zcallRV (As := [.int (zI σ 301 f)]) (rest := []) X hml hK hW (ctX0_has l D cy ad σ (zI σ 301 f)) zmX0_has (by decide) m_412 (zrecv hK (hW 5 0 rfl (by decide)) rfl) ⟨Nat.le_of_ble_eq_true rfl, Nat.le_of_ble_eq_true rfl⟩ ⟨Nat.zero_le _, Nat.zero_le _⟩ rfl hl.1 rfl (Nat.le_of_ble_eq_true rfl) dX5_isReachedBy_97 ?_
            refine zb_ne (tgt := 105) hx hb dX5_isReachedBy_100 (by decide) (fun b13 => ?_) (fun b13 => ?_)
            · have hin := zhas_in hV.2.2.2.2.1 (by decide) b13
              refine lv_aload_n hx hb dX5_isReachedBy_105 rfl (lv_at hl 4 rfl) ?_
              refine lv_iconst (v := 2) hx hb dX5_isReachedBy_106 (by decide) ?_
              refine lv_bipush (v := 104) hx hb dX5_isReachedBy_107 (by decide) ?_
              refine zcallRV (As := [.int 2, .int 104]) (rest := []) X hml hK hW (ctX3_goesBy l D cy ad σ f hi_f 2 104) zmX3_goesBy (by decide) m_424 (zrecv hK (hW 16 f rfl hi_f) rfl) ⟨Nat.le_of_ble_eq_true rfl, Nat.le_of_ble_eq_true rfl⟩ ⟨Nat.zero_le _, Nat.zero_le _⟩ rfl hl.1 rfl (Nat.le_of_ble_eq_true rfl) dX5_isReachedBy_109 ?_
              refine zb_eq (tgt := 139) hx hb dX5_isReachedBy_112 (by decide) (fun b14 => ?_) (fun b14 => ?_)
              · refine lv_aload_n hx hb dX5_isReachedBy_139 rfl (lv_at hl 4 rfl) ?_
                refine lv_iconst (v := 3) hx hb dX5_isReachedBy_140 (by decide) ?_
                refine lv_bipush (v := 114) hx hb dX5_isReachedBy_141 (by decide) ?_
                refine zcallRV (As := [.int 3, .int 114]) (rest := []) X hml hK hW (ctX3_goesBy l D cy ad σ f hi_f 3 114) zmX3_goesBy (by decide) m_424 (zrecv hK (hW 16 f rfl hi_f) rfl) ⟨Nat.le_of_ble_eq_true rfl, Nat.le_of_ble_eq_true rfl⟩ ⟨Nat.zero_le _, Nat.zero_le _⟩ rfl hl.1 rfl (Nat.le_of_ble_eq_true rfl) dX5_isReachedBy_143 ?_
                refine zb_eq (tgt := 173) hx hb dX5_isReachedBy_146 (by decide) (fun b15 => ?_) (fun b15 => ?_)
                · refine lv_iconst (v := 0) hx hb dX5_isReachedBy_173 (by decide) ?_
                  exact ze_z hx hb hr hlocks (by simp [bI_t, bI_f, k_reach, lg_cmp_eq, b1, b2, Ne.symm b2, b3, b4, b12, Ne.symm b12, b13, b14, b15]) dX5_isReachedBy_174
                · refine lv_aload hx hb dX5_isReachedBy_149 (lv_at hl 1 rfl) ?_
                  refine zg1_12 X hK hW hi_u m_125 dX5_isReachedBy_151 ?_
                  refine lv_aload_n hx hb dX5_isReachedBy_154 rfl (lv_at hl 3 rfl) ?_
                  refine zg5_4 X hK hW m_253 dX5_isReachedBy_155 ?_
                  refine lv_iload hx hb dX5_isReachedBy_158 (lv_at hl 0 rfl) ?_
                  refine zcallRV (As := [.int (zI σ 301 f)]) (rest := [.long (zL σ 112 u)]) X hml hK hW (ctX0_handsOf l D cy ad σ (zI σ 301 f) hin) zmX0_handsOf (by decide) m_428 (zrecv hK (hW 5 0 rfl (by decide)) rfl) ⟨Nat.le_of_ble_eq_true rfl, Nat.le_of_ble_eq_true rfl⟩ ⟨Nat.zero_le _, Nat.zero_le _⟩ rfl hl.1 rfl (Nat.le_of_ble_eq_true rfl) dX5_isReachedBy_160 ?_
                  refine lv_land hx hb dX5_isReachedBy_163 ?_
                  refine lv_lconst (v := 0) hx hb dX5_isReachedBy_164 rfl ?_
                  refine W.lcmp hx hb dX5_isReachedBy_165 ?_
                  refine lv_if_eq (tgt := 173) hx hb dX5_isReachedBy_166 (by decide) (fun b16 => ?_) (fun b16 => ?_)
                  · refine lv_iconst (v := 0) hx hb dX5_isReachedBy_173 (by decide) ?_
                    exact ze_z hx hb hr hlocks (by simp [bI_t, bI_f, k_reach, lg_cmp_eq, b1, b2, Ne.symm b2, b3, b4, b12, Ne.symm b12, b13, b14, b15, (lg_cmp_eq _ _).mp b16]) dX5_isReachedBy_174
                  · refine lv_iconst (v := 1) hx hb dX5_isReachedBy_169 (by decide) ?_
                    refine lv_goto (tgt := 174) hx hb dX5_isReachedBy_170 (by decide) ?_
                    exact ze_z hx hb hr hlocks (by simp [bI_t, bI_f, k_reach, lg_cmp_eq, b1, b2, Ne.symm b2, b3, b4, b12, Ne.symm b12, b13, b14, b15, mt (lg_cmp_eq _ _).mpr b16]) dX5_isReachedBy_174
              · refine lv_aload hx hb dX5_isReachedBy_115 (lv_at hl 1 rfl) ?_
                refine zg1_11 X hK hW hi_u m_123 dX5_isReachedBy_117 ?_
                refine lv_aload_n hx hb dX5_isReachedBy_120 rfl (lv_at hl 3 rfl) ?_
                refine zg5_4 X hK hW m_253 dX5_isReachedBy_121 ?_
                refine zg0_2 X hK hW m_60 dX5_isReachedBy_124 ?_
                refine lv_iload hx hb dX5_isReachedBy_127 (lv_at hl 0 rfl) ?_
                refine za7 X hK hW hin dX5_isReachedBy_129 ?_
                refine lv_ishr hx hb dX5_isReachedBy_130 ?_
                refine lv_iconst (v := 1) hx hb dX5_isReachedBy_131 (by decide) ?_
                refine lv_iand hx hb dX5_isReachedBy_132 ?_
                refine lv_iconst (v := 1) hx hb dX5_isReachedBy_133 (by decide) ?_
                refine lv_icmp_ne (tgt := 139) hx hb dX5_isReachedBy_134 (by decide) (fun b17 => ?_) (fun b17 => ?_)
                · refine lv_aload_n hx hb dX5_isReachedBy_139 rfl (lv_at hl 4 rfl) ?_
                  refine lv_iconst (v := 3) hx hb dX5_isReachedBy_140 (by decide) ?_
                  refine lv_bipush (v := 114) hx hb dX5_isReachedBy_141 (by decide) ?_
                  refine zcallRV (As := [.int 3, .int 114]) (rest := []) X hml hK hW (ctX3_goesBy l D cy ad σ f hi_f 3 114) zmX3_goesBy (by decide) m_424 (zrecv hK (hW 16 f rfl hi_f) rfl) ⟨Nat.le_of_ble_eq_true rfl, Nat.le_of_ble_eq_true rfl⟩ ⟨Nat.zero_le _, Nat.zero_le _⟩ rfl hl.1 rfl (Nat.le_of_ble_eq_true rfl) dX5_isReachedBy_143 ?_
                  refine zb_eq (tgt := 173) hx hb dX5_isReachedBy_146 (by decide) (fun b18 => ?_) (fun b18 => ?_)
                  · refine lv_iconst (v := 0) hx hb dX5_isReachedBy_173 (by decide) ?_
                    exact ze_z hx hb hr hlocks (by simp [bI_t, bI_f, k_reach, lg_cmp_eq, b1, b2, Ne.symm b2, b3, b4, b12, Ne.symm b12, b13, b14, b17, Ne.symm b17, b18]) dX5_isReachedBy_174
                  · refine lv_aload hx hb dX5_isReachedBy_149 (lv_at hl 1 rfl) ?_
                    refine zg1_12 X hK hW hi_u m_125 dX5_isReachedBy_151 ?_
                    refine lv_aload_n hx hb dX5_isReachedBy_154 rfl (lv_at hl 3 rfl) ?_
                    refine zg5_4 X hK hW m_253 dX5_isReachedBy_155 ?_
                    refine lv_iload hx hb dX5_isReachedBy_158 (lv_at hl 0 rfl) ?_
                    refine zcallRV (As := [.int (zI σ 301 f)]) (rest := [.long (zL σ 112 u)]) X hml hK hW (ctX0_handsOf l D cy ad σ (zI σ 301 f) hin) zmX0_handsOf (by decide) m_428 (zrecv hK (hW 5 0 rfl (by decide)) rfl) ⟨Nat.le_of_ble_eq_true rfl, Nat.le_of_ble_eq_true rfl⟩ ⟨Nat.zero_le _, Nat.zero_le _⟩ rfl hl.1 rfl (Nat.le_of_ble_eq_true rfl) dX5_isReachedBy_160 ?_
                    refine lv_land hx hb dX5_isReachedBy_163 ?_
                    refine lv_lconst (v := 0) hx hb dX5_isReachedBy_164 rfl ?_
                    refine W.lcmp hx hb dX5_isReachedBy_165 ?_
                    refine lv_if_eq (tgt := 173) hx hb dX5_isReachedBy_166 (by decide) (fun b19 => ?_) (fun b19 => ?_)
                    · refine lv_iconst (v := 0) hx hb dX5_isReachedBy_173 (by decide) ?_
                      exact ze_z hx hb hr hlocks (by simp [bI_t, bI_f, k_reach, lg_cmp_eq, b1, b2, Ne.symm b2, b3, b4, b12, Ne.symm b12, b13, b14, b17, Ne.symm b17, b18, (lg_cmp_eq _ _).mp b19]) dX5_isReachedBy_174
                    · refine lv_iconst (v := 1) hx hb dX5_isReachedBy_169 (by decide) ?_
                      refine lv_goto (tgt := 174) hx hb dX5_isReachedBy_170 (by decide) ?_
                      exact ze_z hx hb hr hlocks (by simp [bI_t, bI_f, k_reach, lg_cmp_eq, b1, b2, Ne.symm b2, b3, b4, b12, Ne.symm b12, b13, b14, b17, Ne.symm b17, b18, mt (lg_cmp_eq _ _).mpr b19]) dX5_isReachedBy_174
                · refine lv_iconst (v := 1) hx hb dX5_isReachedBy_137 (by decide) ?_
                  exact ze_z hx hb hr hlocks (by simp [bI_t, bI_f, k_reach, lg_cmp_eq, b1, b2, Ne.symm b2, b3, b4, b12, Ne.symm b12, b13, b14, b17]) dX5_isReachedBy_138
            · refine lv_iconst (v := 0) hx hb dX5_isReachedBy_103 (by decide) ?_
              exact ze_z hx hb hr hlocks (by simp [bI_t, bI_f, k_reach, lg_cmp_eq, b1, b2, Ne.symm b2, b3, b4, b12, Ne.symm b12, b13]) dX5_isReachedBy_104
          · refine lv_iconst (v := 1) hx hb dX5_isReachedBy_83 (by decide) ?_
            exact ze_z hx hb hr hlocks (by simp [bI_t, bI_f, k_reach, lg_cmp_eq, b1, b2, Ne.symm b2, b3, b4, b12]) dX5_isReachedBy_84
      · refine lv_aload hx hb dX5_isReachedBy_47 (lv_at hl 0 rfl) ?_
        refine zg1_2 X hK hW hi_u m_100 dX5_isReachedBy_49 ?_
        refine lv_aload_n hx hb dX5_isReachedBy_52 rfl (lv_at hl 1 rfl) ?_
        refine zg1_2 X hK hW (zvin (hV.2.2.2.2.2.1 f hf)) m_100 dX5_isReachedBy_53 ?_
        refine lv_icmp_ne (tgt := 61) hx hb dX5_isReachedBy_56 (by decide) (fun b20 => ?_) (fun b20 => ?_)
        · refine lv_aload_n hx hb dX5_isReachedBy_61 rfl (lv_at hl 3 rfl) ?_
          refine lv_iconst (v := 4) hx hb dX5_isReachedBy_62 (by decide) ?_
          refine lv_bipush (v := 99) hx hb dX5_isReachedBy_63 (by decide) ?_
          refine zcallRV (As := [.int 4, .int 99]) (rest := []) X hml hK hW (ctX3_goesBy l D cy ad σ f hi_f 4 99) zmX3_goesBy (by decide) m_424 (zrecv hK (hW 16 f rfl hi_f) rfl) ⟨Nat.le_of_ble_eq_true rfl, Nat.le_of_ble_eq_true rfl⟩ ⟨Nat.zero_le _, Nat.zero_le _⟩ rfl hl.1 rfl (Nat.le_of_ble_eq_true rfl) dX5_isReachedBy_65 ?_
          refine zb_eq (tgt := 85) hx hb dX5_isReachedBy_68 (by decide) (fun b21 => ?_) (fun b21 => ?_)
          · refine lv_aload_n hx hb dX5_isReachedBy_85 rfl (lv_at hl 3 rfl) ?_
            refine zg3_1 X hK hW hi_f m_215 dX5_isReachedBy_86 ?_
            refine lv_istore (lv' := [(5, .int (zI σ 301 f)), (4, .ref (ad 11 u)), (3, .ref (ad 11 ((zI σ 300 f).toNatClampNeg))), (0, .ref (ad 0 0)), (1, .ref (ad 16 f)), (2, .int (nI u))]) hx hb dX5_isReachedBy_89 hl (by decide) rfl (fun ls hl => ?_)
            refine lv_aload_n hx hb dX5_isReachedBy_91 rfl (lv_at hl 3 rfl) ?_
            refine zg5_4 X hK hW m_253 dX5_isReachedBy_92 ?_
            refine lv_iload hx hb dX5_isReachedBy_95 (lv_at hl 0 rfl) ?_
            refine zcallRV (As := [.int (zI σ 301 f)]) (rest := []) X hml hK hW (ctX0_has l D cy ad σ (zI σ 301 f)) zmX0_has (by decide) m_412 (zrecv hK (hW 5 0 rfl (by decide)) rfl) ⟨Nat.le_of_ble_eq_true rfl, Nat.le_of_ble_eq_true rfl⟩ ⟨Nat.zero_le _, Nat.zero_le _⟩ rfl hl.1 rfl (Nat.le_of_ble_eq_true rfl) dX5_isReachedBy_97 ?_
            refine zb_ne (tgt := 105) hx hb dX5_isReachedBy_100 (by decide) (fun b22 => ?_) (fun b22 => ?_)
            · have hin := zhas_in hV.2.2.2.2.1 (by decide) b22
              refine lv_aload_n hx hb dX5_isReachedBy_105 rfl (lv_at hl 4 rfl) ?_
              refine lv_iconst (v := 2) hx hb dX5_isReachedBy_106 (by decide) ?_
              refine lv_bipush (v := 104) hx hb dX5_isReachedBy_107 (by decide) ?_
              refine zcallRV (As := [.int 2, .int 104]) (rest := []) X hml hK hW (ctX3_goesBy l D cy ad σ f hi_f 2 104) zmX3_goesBy (by decide) m_424 (zrecv hK (hW 16 f rfl hi_f) rfl) ⟨Nat.le_of_ble_eq_true rfl, Nat.le_of_ble_eq_true rfl⟩ ⟨Nat.zero_le _, Nat.zero_le _⟩ rfl hl.1 rfl (Nat.le_of_ble_eq_true rfl) dX5_isReachedBy_109 ?_
              refine zb_eq (tgt := 139) hx hb dX5_isReachedBy_112 (by decide) (fun b23 => ?_) (fun b23 => ?_)
              · refine lv_aload_n hx hb dX5_isReachedBy_139 rfl (lv_at hl 4 rfl) ?_
                refine lv_iconst (v := 3) hx hb dX5_isReachedBy_140 (by decide) ?_
                refine lv_bipush (v := 114) hx hb dX5_isReachedBy_141 (by decide) ?_
                refine zcallRV (As := [.int 3, .int 114]) (rest := []) X hml hK hW (ctX3_goesBy l D cy ad σ f hi_f 3 114) zmX3_goesBy (by decide) m_424 (zrecv hK (hW 16 f rfl hi_f) rfl) ⟨Nat.le_of_ble_eq_true rfl, Nat.le_of_ble_eq_true rfl⟩ ⟨Nat.zero_le _, Nat.zero_le _⟩ rfl hl.1 rfl (Nat.le_of_ble_eq_true rfl) dX5_isReachedBy_143 ?_
                refine zb_eq (tgt := 173) hx hb dX5_isReachedBy_146 (by decide) (fun b24 => ?_) (fun b24 => ?_)
                · refine lv_iconst (v := 0) hx hb dX5_isReachedBy_173 (by decide) ?_
                  exact ze_z hx hb hr hlocks (by simp [bI_t, bI_f, k_reach, lg_cmp_eq, b1, b2, Ne.symm b2, b3, b20, Ne.symm b20, b21, b22, b23, b24]) dX5_isReachedBy_174
                · refine lv_aload hx hb dX5_isReachedBy_149 (lv_at hl 1 rfl) ?_
                  refine zg1_12 X hK hW hi_u m_125 dX5_isReachedBy_151 ?_
                  refine lv_aload_n hx hb dX5_isReachedBy_154 rfl (lv_at hl 3 rfl) ?_
                  refine zg5_4 X hK hW m_253 dX5_isReachedBy_155 ?_
                  refine lv_iload hx hb dX5_isReachedBy_158 (lv_at hl 0 rfl) ?_
                  refine zcallRV (As := [.int (zI σ 301 f)]) (rest := [.long (zL σ 112 u)]) X hml hK hW (ctX0_handsOf l D cy ad σ (zI σ 301 f) hin) zmX0_handsOf (by decide) m_428 (zrecv hK (hW 5 0 rfl (by decide)) rfl) ⟨Nat.le_of_ble_eq_true rfl, Nat.le_of_ble_eq_true rfl⟩ ⟨Nat.zero_le _, Nat.zero_le _⟩ rfl hl.1 rfl (Nat.le_of_ble_eq_true rfl) dX5_isReachedBy_160 ?_
                  refine lv_land hx hb dX5_isReachedBy_163 ?_
                  refine lv_lconst (v := 0) hx hb dX5_isReachedBy_164 rfl ?_
                  refine W.lcmp hx hb dX5_isReachedBy_165 ?_
                  refine lv_if_eq (tgt := 173) hx hb dX5_isReachedBy_166 (by decide) (fun b25 => ?_) (fun b25 => ?_)
                  · refine lv_iconst (v := 0) hx hb dX5_isReachedBy_173 (by decide) ?_
                    exact ze_z hx hb hr hlocks (by simp [bI_t, bI_f, k_reach, lg_cmp_eq, b1, b2, Ne.symm b2, b3, b20, Ne.symm b20, b21, b22, b23, b24, (lg_cmp_eq _ _).mp b25]) dX5_isReachedBy_174
                  · refine lv_iconst (v := 1) hx hb dX5_isReachedBy_169 (by decide) ?_
                    refine lv_goto (tgt := 174) hx hb dX5_isReachedBy_170 (by decide) ?_
                    exact ze_z hx hb hr hlocks (by simp [bI_t, bI_f, k_reach, lg_cmp_eq, b1, b2, Ne.symm b2, b3, b20, Ne.symm b20, b21, b22, b23, b24, mt (lg_cmp_eq _ _).mpr b25]) dX5_isReachedBy_174
              · refine lv_aload hx hb dX5_isReachedBy_115 (lv_at hl 1 rfl) ?_
                refine zg1_11 X hK hW hi_u m_123 dX5_isReachedBy_117 ?_
                refine lv_aload_n hx hb dX5_isReachedBy_120 rfl (lv_at hl 3 rfl) ?_
                refine zg5_4 X hK hW m_253 dX5_isReachedBy_121 ?_
                refine zg0_2 X hK hW m_60 dX5_isReachedBy_124 ?_
                refine lv_iload hx hb dX5_isReachedBy_127 (lv_at hl 0 rfl) ?_
                refine za7 X hK hW hin dX5_isReachedBy_129 ?_
                refine lv_ishr hx hb dX5_isReachedBy_130 ?_
                refine lv_iconst (v := 1) hx hb dX5_isReachedBy_131 (by decide) ?_
                refine lv_iand hx hb dX5_isReachedBy_132 ?_
                refine lv_iconst (v := 1) hx hb dX5_isReachedBy_133 (by decide) ?_
                refine lv_icmp_ne (tgt := 139) hx hb dX5_isReachedBy_134 (by decide) (fun b26 => ?_) (fun b26 => ?_)
                · refine lv_aload_n hx hb dX5_isReachedBy_139 rfl (lv_at hl 4 rfl) ?_
                  refine lv_iconst (v := 3) hx hb dX5_isReachedBy_140 (by decide) ?_
                  refine lv_bipush (v := 114) hx hb dX5_isReachedBy_141 (by decide) ?_
                  refine zcallRV (As := [.int 3, .int 114]) (rest := []) X hml hK hW (ctX3_goesBy l D cy ad σ f hi_f 3 114) zmX3_goesBy (by decide) m_424 (zrecv hK (hW 16 f rfl hi_f) rfl) ⟨Nat.le_of_ble_eq_true rfl, Nat.le_of_ble_eq_true rfl⟩ ⟨Nat.zero_le _, Nat.zero_le _⟩ rfl hl.1 rfl (Nat.le_of_ble_eq_true rfl) dX5_isReachedBy_143 ?_
                  refine zb_eq (tgt := 173) hx hb dX5_isReachedBy_146 (by decide) (fun b27 => ?_) (fun b27 => ?_)
                  · refine lv_iconst (v := 0) hx hb dX5_isReachedBy_173 (by decide) ?_
                    exact ze_z hx hb hr hlocks (by simp [bI_t, bI_f, k_reach, lg_cmp_eq, b1, b2, Ne.symm b2, b3, b20, Ne.symm b20, b21, b22, b23, b26, Ne.symm b26, b27]) dX5_isReachedBy_174
                  · refine lv_aload hx hb dX5_isReachedBy_149 (lv_at hl 1 rfl) ?_
                    refine zg1_12 X hK hW hi_u m_125 dX5_isReachedBy_151 ?_
                    refine lv_aload_n hx hb dX5_isReachedBy_154 rfl (lv_at hl 3 rfl) ?_
                    refine zg5_4 X hK hW m_253 dX5_isReachedBy_155 ?_
                    refine lv_iload hx hb dX5_isReachedBy_158 (lv_at hl 0 rfl) ?_
                    refine zcallRV (As := [.int (zI σ 301 f)]) (rest := [.long (zL σ 112 u)]) X hml hK hW (ctX0_handsOf l D cy ad σ (zI σ 301 f) hin) zmX0_handsOf (by decide) m_428 (zrecv hK (hW 5 0 rfl (by decide)) rfl) ⟨Nat.le_of_ble_eq_true rfl, Nat.le_of_ble_eq_true rfl⟩ ⟨Nat.zero_le _, Nat.zero_le _⟩ rfl hl.1 rfl (Nat.le_of_ble_eq_true rfl) dX5_isReachedBy_160 ?_
                    refine lv_land hx hb dX5_isReachedBy_163 ?_
                    refine lv_lconst (v := 0) hx hb dX5_isReachedBy_164 rfl ?_
                    refine W.lcmp hx hb dX5_isReachedBy_165 ?_
                    refine lv_if_eq (tgt := 173) hx hb dX5_isReachedBy_166 (by decide) (fun b28 => ?_) (fun b28 => ?_)
                    · refine lv_iconst (v := 0) hx hb dX5_isReachedBy_173 (by decide) ?_
                      exact ze_z hx hb hr hlocks (by simp [bI_t, bI_f, k_reach, lg_cmp_eq, b1, b2, Ne.symm b2, b3, b20, Ne.symm b20, b21, b22, b23, b26, Ne.symm b26, b27, (lg_cmp_eq _ _).mp b28]) dX5_isReachedBy_174
                    · refine lv_iconst (v := 1) hx hb dX5_isReachedBy_169 (by decide) ?_
                      refine lv_goto (tgt := 174) hx hb dX5_isReachedBy_170 (by decide) ?_
                      exact ze_z hx hb hr hlocks (by simp [bI_t, bI_f, k_reach, lg_cmp_eq, b1, b2, Ne.symm b2, b3, b20, Ne.symm b20, b21, b22, b23, b26, Ne.symm b26, b27, mt (lg_cmp_eq _ _).mpr b28]) dX5_isReachedBy_174
                · refine lv_iconst (v := 1) hx hb dX5_isReachedBy_137 (by decide) ?_
                  exact ze_z hx hb hr hlocks (by simp [bI_t, bI_f, k_reach, lg_cmp_eq, b1, b2, Ne.symm b2, b3, b20, Ne.symm b20, b21, b22, b23, b26]) dX5_isReachedBy_138
            · refine lv_iconst (v := 0) hx hb dX5_isReachedBy_103 (by decide) ?_
              exact ze_z hx hb hr hlocks (by simp [bI_t, bI_f, k_reach, lg_cmp_eq, b1, b2, Ne.symm b2, b3, b20, Ne.symm b20, b21, b22]) dX5_isReachedBy_104
          · refine lv_aload hx hb dX5_isReachedBy_71 (lv_at hl 0 rfl) ?_
            refine zg1_1 X hK hW hi_u m_98 dX5_isReachedBy_73 ?_
            refine lv_aload_n hx hb dX5_isReachedBy_76 rfl (lv_at hl 1 rfl) ?_
            refine zg1_1 X hK hW (zvin (hV.2.2.2.2.2.1 f hf)) m_98 dX5_isReachedBy_77 ?_
            refine lv_icmp_ne (tgt := 85) hx hb dX5_isReachedBy_80 (by decide) (fun b29 => ?_) (fun b29 => ?_)
            · refine lv_aload_n hx hb dX5_isReachedBy_85 rfl (lv_at hl 3 rfl) ?_
              refine zg3_1 X hK hW hi_f m_215 dX5_isReachedBy_86 ?_
              refine lv_istore (lv' := [(5, .int (zI σ 301 f)), (4, .ref (ad 11 u)), (3, .ref (ad 11 ((zI σ 300 f).toNatClampNeg))), (0, .ref (ad 0 0)), (1, .ref (ad 16 f)), (2, .int (nI u))]) hx hb dX5_isReachedBy_89 hl (by decide) rfl (fun ls hl => ?_)
              refine lv_aload_n hx hb dX5_isReachedBy_91 rfl (lv_at hl 3 rfl) ?_
              refine zg5_4 X hK hW m_253 dX5_isReachedBy_92 ?_
              refine lv_iload hx hb dX5_isReachedBy_95 (lv_at hl 0 rfl) ?_
              refine zcallRV (As := [.int (zI σ 301 f)]) (rest := []) X hml hK hW (ctX0_has l D cy ad σ (zI σ 301 f)) zmX0_has (by decide) m_412 (zrecv hK (hW 5 0 rfl (by decide)) rfl) ⟨Nat.le_of_ble_eq_true rfl, Nat.le_of_ble_eq_true rfl⟩ ⟨Nat.zero_le _, Nat.zero_le _⟩ rfl hl.1 rfl (Nat.le_of_ble_eq_true rfl) dX5_isReachedBy_97 ?_
              refine zb_ne (tgt := 105) hx hb dX5_isReachedBy_100 (by decide) (fun b30 => ?_) (fun b30 => ?_)
              · have hin := zhas_in hV.2.2.2.2.1 (by decide) b30
                refine lv_aload_n hx hb dX5_isReachedBy_105 rfl (lv_at hl 4 rfl) ?_
                refine lv_iconst (v := 2) hx hb dX5_isReachedBy_106 (by decide) ?_
                refine lv_bipush (v := 104) hx hb dX5_isReachedBy_107 (by decide) ?_
                refine zcallRV (As := [.int 2, .int 104]) (rest := []) X hml hK hW (ctX3_goesBy l D cy ad σ f hi_f 2 104) zmX3_goesBy (by decide) m_424 (zrecv hK (hW 16 f rfl hi_f) rfl) ⟨Nat.le_of_ble_eq_true rfl, Nat.le_of_ble_eq_true rfl⟩ ⟨Nat.zero_le _, Nat.zero_le _⟩ rfl hl.1 rfl (Nat.le_of_ble_eq_true rfl) dX5_isReachedBy_109 ?_
                refine zb_eq (tgt := 139) hx hb dX5_isReachedBy_112 (by decide) (fun b31 => ?_) (fun b31 => ?_)
                · refine lv_aload_n hx hb dX5_isReachedBy_139 rfl (lv_at hl 4 rfl) ?_
                  refine lv_iconst (v := 3) hx hb dX5_isReachedBy_140 (by decide) ?_
                  refine lv_bipush (v := 114) hx hb dX5_isReachedBy_141 (by decide) ?_
                  refine zcallRV (As := [.int 3, .int 114]) (rest := []) X hml hK hW (ctX3_goesBy l D cy ad σ f hi_f 3 114) zmX3_goesBy (by decide) m_424 (zrecv hK (hW 16 f rfl hi_f) rfl) ⟨Nat.le_of_ble_eq_true rfl, Nat.le_of_ble_eq_true rfl⟩ ⟨Nat.zero_le _, Nat.zero_le _⟩ rfl hl.1 rfl (Nat.le_of_ble_eq_true rfl) dX5_isReachedBy_143 ?_
                  refine zb_eq (tgt := 173) hx hb dX5_isReachedBy_146 (by decide) (fun b32 => ?_) (fun b32 => ?_)
                  · refine lv_iconst (v := 0) hx hb dX5_isReachedBy_173 (by decide) ?_
                    exact ze_z hx hb hr hlocks (by simp [bI_t, bI_f, k_reach, lg_cmp_eq, b1, b2, Ne.symm b2, b3, b20, Ne.symm b20, b21, b29, Ne.symm b29, b30, b31, b32]) dX5_isReachedBy_174
                  · refine lv_aload hx hb dX5_isReachedBy_149 (lv_at hl 1 rfl) ?_
                    refine zg1_12 X hK hW hi_u m_125 dX5_isReachedBy_151 ?_
                    refine lv_aload_n hx hb dX5_isReachedBy_154 rfl (lv_at hl 3 rfl) ?_
                    refine zg5_4 X hK hW m_253 dX5_isReachedBy_155 ?_
                    refine lv_iload hx hb dX5_isReachedBy_158 (lv_at hl 0 rfl) ?_
                    refine zcallRV (As := [.int (zI σ 301 f)]) (rest := [.long (zL σ 112 u)]) X hml hK hW (ctX0_handsOf l D cy ad σ (zI σ 301 f) hin) zmX0_handsOf (by decide) m_428 (zrecv hK (hW 5 0 rfl (by decide)) rfl) ⟨Nat.le_of_ble_eq_true rfl, Nat.le_of_ble_eq_true rfl⟩ ⟨Nat.zero_le _, Nat.zero_le _⟩ rfl hl.1 rfl (Nat.le_of_ble_eq_true rfl) dX5_isReachedBy_160 ?_
                    refine lv_land hx hb dX5_isReachedBy_163 ?_
                    refine lv_lconst (v := 0) hx hb dX5_isReachedBy_164 rfl ?_
                    refine W.lcmp hx hb dX5_isReachedBy_165 ?_
                    refine lv_if_eq (tgt := 173) hx hb dX5_isReachedBy_166 (by decide) (fun b33 => ?_) (fun b33 => ?_)
                    · refine lv_iconst (v := 0) hx hb dX5_isReachedBy_173 (by decide) ?_
                      exact ze_z hx hb hr hlocks (by simp [bI_t, bI_f, k_reach, lg_cmp_eq, b1, b2, Ne.symm b2, b3, b20, Ne.symm b20, b21, b29, Ne.symm b29, b30, b31, b32, (lg_cmp_eq _ _).mp b33]) dX5_isReachedBy_174
                    · refine lv_iconst (v := 1) hx hb dX5_isReachedBy_169 (by decide) ?_
                      refine lv_goto (tgt := 174) hx hb dX5_isReachedBy_170 (by decide) ?_
                      exact ze_z hx hb hr hlocks (by simp [bI_t, bI_f, k_reach, lg_cmp_eq, b1, b2, Ne.symm b2, b3, b20, Ne.symm b20, b21, b29, Ne.symm b29, b30, b31, b32, mt (lg_cmp_eq _ _).mpr b33]) dX5_isReachedBy_174
                · refine lv_aload hx hb dX5_isReachedBy_115 (lv_at hl 1 rfl) ?_
                  refine zg1_11 X hK hW hi_u m_123 dX5_isReachedBy_117 ?_
                  refine lv_aload_n hx hb dX5_isReachedBy_120 rfl (lv_at hl 3 rfl) ?_
                  refine zg5_4 X hK hW m_253 dX5_isReachedBy_121 ?_
                  refine zg0_2 X hK hW m_60 dX5_isReachedBy_124 ?_
                  refine lv_iload hx hb dX5_isReachedBy_127 (lv_at hl 0 rfl) ?_
                  refine za7 X hK hW hin dX5_isReachedBy_129 ?_
                  refine lv_ishr hx hb dX5_isReachedBy_130 ?_
                  refine lv_iconst (v := 1) hx hb dX5_isReachedBy_131 (by decide) ?_
                  refine lv_iand hx hb dX5_isReachedBy_132 ?_
                  refine lv_iconst (v := 1) hx hb dX5_isReachedBy_133 (by decide) ?_
                  refine lv_icmp_ne (tgt := 139) hx hb dX5_isReachedBy_134 (by decide) (fun b34 => ?_) (fun b34 => ?_)
                  · refine lv_aload_n hx hb dX5_isReachedBy_139 rfl (lv_at hl 4 rfl) ?_
                    refine lv_iconst (v := 3) hx hb dX5_isReachedBy_140 (by decide) ?_
                    refine lv_bipush (v := 114) hx hb dX5_isReachedBy_141 (by decide) ?_
                    refine zcallRV (As := [.int 3, .int 114]) (rest := []) X hml hK hW (ctX3_goesBy l D cy ad σ f hi_f 3 114) zmX3_goesBy (by decide) m_424 (zrecv hK (hW 16 f rfl hi_f) rfl) ⟨Nat.le_of_ble_eq_true rfl, Nat.le_of_ble_eq_true rfl⟩ ⟨Nat.zero_le _, Nat.zero_le _⟩ rfl hl.1 rfl (Nat.le_of_ble_eq_true rfl) dX5_isReachedBy_143 ?_
                    refine zb_eq (tgt := 173) hx hb dX5_isReachedBy_146 (by decide) (fun b35 => ?_) (fun b35 => ?_)
                    · refine lv_iconst (v := 0) hx hb dX5_isReachedBy_173 (by decide) ?_
                      exact ze_z hx hb hr hlocks (by simp [bI_t, bI_f, k_reach, lg_cmp_eq, b1, b2, Ne.symm b2, b3, b20, Ne.symm b20, b21, b29, Ne.symm b29, b30, b31, b34, Ne.symm b34, b35]) dX5_isReachedBy_174
                    · refine lv_aload hx hb dX5_isReachedBy_149 (lv_at hl 1 rfl) ?_
                      refine zg1_12 X hK hW hi_u m_125 dX5_isReachedBy_151 ?_
                      refine lv_aload_n hx hb dX5_isReachedBy_154 rfl (lv_at hl 3 rfl) ?_
                      refine zg5_4 X hK hW m_253 dX5_isReachedBy_155 ?_
                      refine lv_iload hx hb dX5_isReachedBy_158 (lv_at hl 0 rfl) ?_
                      refine zcallRV (As := [.int (zI σ 301 f)]) (rest := [.long (zL σ 112 u)]) X hml hK hW (ctX0_handsOf l D cy ad σ (zI σ 301 f) hin) zmX0_handsOf (by decide) m_428 (zrecv hK (hW 5 0 rfl (by decide)) rfl) ⟨Nat.le_of_ble_eq_true rfl, Nat.le_of_ble_eq_true rfl⟩ ⟨Nat.zero_le _, Nat.zero_le _⟩ rfl hl.1 rfl (Nat.le_of_ble_eq_true rfl) dX5_isReachedBy_160 ?_
                      refine lv_land hx hb dX5_isReachedBy_163 ?_
                      refine lv_lconst (v := 0) hx hb dX5_isReachedBy_164 rfl ?_
                      refine W.lcmp hx hb dX5_isReachedBy_165 ?_
                      refine lv_if_eq (tgt := 173) hx hb dX5_isReachedBy_166 (by decide) (fun b36 => ?_) (fun b36 => ?_)
                      · refine lv_iconst (v := 0) hx hb dX5_isReachedBy_173 (by decide) ?_
                        exact ze_z hx hb hr hlocks (by simp [bI_t, bI_f, k_reach, lg_cmp_eq, b1, b2, Ne.symm b2, b3, b20, Ne.symm b20, b21, b29, Ne.symm b29, b30, b31, b34, Ne.symm b34, b35, (lg_cmp_eq _ _).mp b36]) dX5_isReachedBy_174
                      · refine lv_iconst (v := 1) hx hb dX5_isReachedBy_169 (by decide) ?_
                        refine lv_goto (tgt := 174) hx hb dX5_isReachedBy_170 (by decide) ?_
                        exact ze_z hx hb hr hlocks (by simp [bI_t, bI_f, k_reach, lg_cmp_eq, b1, b2, Ne.symm b2, b3, b20, Ne.symm b20, b21, b29, Ne.symm b29, b30, b31, b34, Ne.symm b34, b35, mt (lg_cmp_eq _ _).mpr b36]) dX5_isReachedBy_174
                  · refine lv_iconst (v := 1) hx hb dX5_isReachedBy_137 (by decide) ?_
                    exact ze_z hx hb hr hlocks (by simp [bI_t, bI_f, k_reach, lg_cmp_eq, b1, b2, Ne.symm b2, b3, b20, Ne.symm b20, b21, b29, Ne.symm b29, b30, b31, b34]) dX5_isReachedBy_138
              · refine lv_iconst (v := 0) hx hb dX5_isReachedBy_103 (by decide) ?_
                exact ze_z hx hb hr hlocks (by simp [bI_t, bI_f, k_reach, lg_cmp_eq, b1, b2, Ne.symm b2, b3, b20, Ne.symm b20, b21, b29, Ne.symm b29, b30]) dX5_isReachedBy_104
            · refine lv_iconst (v := 1) hx hb dX5_isReachedBy_83 (by decide) ?_
              exact ze_z hx hb hr hlocks (by simp [bI_t, bI_f, k_reach, lg_cmp_eq, b1, b2, Ne.symm b2, b3, b20, Ne.symm b20, b21, b29]) dX5_isReachedBy_84
        · refine lv_iconst (v := 1) hx hb dX5_isReachedBy_59 (by decide) ?_
          exact ze_z hx hb hr hlocks (by simp [bI_t, bI_f, k_reach, lg_cmp_eq, b1, b2, Ne.symm b2, b3, b20]) dX5_isReachedBy_60
    · refine lv_iconst (v := 1) hx hb dX5_isReachedBy_17 (by decide) ?_
      exact ze_z hx hb hr hlocks (by simp [bI_t, bI_f, k_reach, lg_cmp_eq, b1, b2]) dX5_isReachedBy_18
  · refine lv_iconst (v := 0) hx hb dX5_isReachedBy_7 (by decide) ?_
    exact ze_z hx hb hr hlocks (by simp [bI_t, bI_f, k_reach, lg_cmp_eq, b1, Ne.symm b1]) dX5_isReachedBy_8
theorem zmX5_isFreeOf : zmV yX5_isFreeOf RX5 cX5_isFreeOf 4 (some .boolean) 2 := ⟨m_434, s_2, m_2, m_435, rfl, by decide, by decide, by decide +kernel⟩
set_option maxRecDepth 100000 in
set_option maxHeartbeats 4000000 in
theorem ctX5_isFreeOf (l : Launch) (D : va_G) (cy : Nat → ClassId) (ad : Nat → Nat → Nat) (σ : zS) (f : Nat) (hi_f : f < 12) (u : Nat) (hi_u : u < 24) : Met l yX5_isFreeOf (zw yX5_isFreeOf cX5_isFreeOf 4 (some .boolean)) (zrm 0) (va_Pc [.ref (ad 0 0), .ref (ad 16 f), .int (nI u)] (zB D cy (zW D cy ad zsL σ))) (zqR (.int (bI (k_free σ f u)))) 0 0 (fun _ => False) := by
  refine zmet (by decide) rfl (Nat.le_of_ble_eq_true rfl) rfl (fun p e s m below meth c ls X hml hr hlocks hv hl => ?_)
  obtain ⟨hK, hW⟩ := hv
  obtain ⟨hx, hb, -, -⟩ := id X
  have hl : lv_has ls 4 [(0, .ref (ad 0 0)), (1, .ref (ad 16 f)), (2, .int (nI u))] := hl
  refine lv_aload_n hx hb dX5_isFreeOf_0 rfl (lv_at hl 1 rfl) ?_
  refine zg3_0 X hK hW hi_f m_212 dX5_isFreeOf_1 ?_
  refine lv_iload_n hx hb dX5_isFreeOf_4 rfl (lv_at hl 2 rfl) ?_
  refine lv_icmp_ne (tgt := 15) hx hb dX5_isFreeOf_5 (by decide) (fun b1 => ?_) (fun b1 => ?_)
  · refine lv_aload_n hx hb dX5_isFreeOf_15 rfl (lv_at hl 1 rfl) ?_
    refine zg3_5 X hK hW hi_f m_226 dX5_isFreeOf_16 ?_
    refine lv_istore_n (lv' := [(3, .int (zI σ 305 f)), (0, .ref (ad 0 0)), (1, .ref (ad 16 f)), (2, .int (nI u))]) hx hb dX5_isFreeOf_19 rfl hl (by decide) rfl (fun ls hl => ?_)
    refine lv_iload_n hx hb dX5_isFreeOf_20 rfl (lv_at hl 0 rfl) ?_
    refine lv_if_le (tgt := 41) hx hb dX5_isFreeOf_21 (by decide) (fun b2 => ?_) (fun b2 => ?_)
    · refine lv_iconst (v := 0) hx hb dX5_isFreeOf_41 (by decide) ?_
      exact ze_z hx hb hr hlocks (by simp [bI_t, bI_f, k_free, k_from, b1, Ne.symm b1, b2, Int32.not_lt.mpr b2]) dX5_isFreeOf_42
    · refine lv_aload_n hx hb dX5_isFreeOf_24 rfl (lv_at hl 1 rfl) ?_
      refine zg5_1 X hK hW m_246 dX5_isFreeOf_25 ?_
      refine lv_iload_n hx hb dX5_isFreeOf_28 rfl (lv_at hl 3 rfl) ?_
      refine zrn2 X hK hW hi_u dX5_isFreeOf_29 ?_
      refine zg1_17 X hK hW hi_u m_134 dX5_isFreeOf_30 ?_
      refine lv_iload_n hx hb dX5_isFreeOf_33 rfl (lv_at hl 0 rfl) ?_
      refine lv_icmp_le (tgt := 41) hx hb dX5_isFreeOf_34 (by decide) (fun b3 => ?_) (fun b3 => ?_)
      · refine lv_iconst (v := 0) hx hb dX5_isFreeOf_41 (by decide) ?_
        exact ze_z hx hb hr hlocks (by simp [bI_t, bI_f, k_free, k_from, b1, Ne.symm b1, b2, Int32.not_le.mp b2, b3, Int32.not_lt.mpr b3]) dX5_isFreeOf_42
      · refine lv_iconst (v := 1) hx hb dX5_isFreeOf_37 (by decide) ?_
        refine lv_goto (tgt := 42) hx hb dX5_isFreeOf_38 (by decide) ?_
        exact ze_z hx hb hr hlocks (by simp [bI_t, bI_f, k_free, k_from, b1, Ne.symm b1, b2, Int32.not_le.mp b2, b3, Int32.not_le.mp b3]) dX5_isFreeOf_42
  · refine lv_aload_n hx hb dX5_isFreeOf_8 rfl (lv_at hl 1 rfl) ?_
    refine zg3_6 X hK hW hi_f m_228 dX5_isFreeOf_9 ?_
    refine lv_goto (tgt := 19) hx hb dX5_isFreeOf_12 (by decide) ?_
    refine lv_istore_n (lv' := [(3, .int (zI σ 306 f)), (0, .ref (ad 0 0)), (1, .ref (ad 16 f)), (2, .int (nI u))]) hx hb dX5_isFreeOf_19 rfl hl (by decide) rfl (fun ls hl => ?_)
    refine lv_iload_n hx hb dX5_isFreeOf_20 rfl (lv_at hl 0 rfl) ?_
    refine lv_if_le (tgt := 41) hx hb dX5_isFreeOf_21 (by decide) (fun b4 => ?_) (fun b4 => ?_)
    · refine lv_iconst (v := 0) hx hb dX5_isFreeOf_41 (by decide) ?_
      exact ze_z hx hb hr hlocks (by simp [bI_t, bI_f, k_free, k_from, b1, b4, Int32.not_lt.mpr b4]) dX5_isFreeOf_42
    · refine lv_aload_n hx hb dX5_isFreeOf_24 rfl (lv_at hl 1 rfl) ?_
      refine zg5_1 X hK hW m_246 dX5_isFreeOf_25 ?_
      refine lv_iload_n hx hb dX5_isFreeOf_28 rfl (lv_at hl 3 rfl) ?_
      refine zrn2 X hK hW hi_u dX5_isFreeOf_29 ?_
      refine zg1_17 X hK hW hi_u m_134 dX5_isFreeOf_30 ?_
      refine lv_iload_n hx hb dX5_isFreeOf_33 rfl (lv_at hl 0 rfl) ?_
      refine lv_icmp_le (tgt := 41) hx hb dX5_isFreeOf_34 (by decide) (fun b5 => ?_) (fun b5 => ?_)
      · refine lv_iconst (v := 0) hx hb dX5_isFreeOf_41 (by decide) ?_
        exact ze_z hx hb hr hlocks (by simp [bI_t, bI_f, k_free, k_from, b1, b4, Int32.not_le.mp b4, b5, Int32.not_lt.mpr b5]) dX5_isFreeOf_42
      · refine lv_iconst (v := 1) hx hb dX5_isFreeOf_37 (by decide) ?_
        refine lv_goto (tgt := 42) hx hb dX5_isFreeOf_38 (by decide) ?_
        exact ze_z hx hb hr hlocks (by simp [bI_t, bI_f, k_free, k_from, b1, b4, Int32.not_le.mp b4, b5, Int32.not_le.mp b5]) dX5_isFreeOf_42
theorem zmX5_isOnGround : zmV yX5_isOnGround RX5 cX5_isOnGround 3 (some .boolean) 1 := ⟨m_417, m_418, m_2, m_419, rfl, by decide, by decide, by decide +kernel⟩
set_option maxRecDepth 100000 in
set_option maxHeartbeats 4000000 in
theorem ctX5_isOnGround (l : Launch) (D : va_G) (cy : Nat → ClassId) (ad : Nat → Nat → Nat) (σ : zS) (u : Nat) (hi_u : u < 24) (hV : zV σ) : Met l yX5_isOnGround (zw yX5_isOnGround cX5_isOnGround 3 (some .boolean)) (zrm 3) (va_Pc [.ref (ad 0 0), .int (nI u)] (zB D cy (zW D cy ad zsL σ))) (zqR (.int (bI (k_down σ u)))) 0 0 (fun _ => False) := by
  refine zmet (by decide) rfl (Nat.le_of_ble_eq_true rfl) rfl (fun p e s m below meth c ls X hml hr hlocks hv hl => ?_)
  obtain ⟨hK, hW⟩ := hv
  obtain ⟨hx, hb, -, -⟩ := id X
  have hl : lv_has ls 3 [(0, .ref (ad 0 0)), (1, .int (nI u))] := hl
  refine lv_iconst (v := 0) hx hb dX5_isOnGround_0 (by decide) ?_
  refine lv_istore_n (lv' := [(2, .int 0), (0, .ref (ad 0 0)), (1, .int (nI u))]) hx hb dX5_isOnGround_1 rfl hl (by decide) rfl (fun ls hl => ?_)
  have loop2 : ∀ (n : Nat) (k : Nat) (ls : Array Slot), lv_has ls 3 [(0, .ref (ad 0 0)), (1, .int (nI u)), (2, .int (nI k))] → zn σ 508 - k < n → (k ≤ zn σ 508) → (zany (fun f => k_reach σ f u && !k_free σ f u) k = false) → W p l e (zrm 3) s m ([.ref (ad 0 0), .int (nI u)] : List Value).toArray below meth c s.heap [] 0 0 (MQ below (zqR (.int (bI (k_down σ u)))) ([.ref (ad 0 0), .int (nI u)] : List Value).toArray s 0 0 (fun _ => False)) (F0 m 2 ls []) := by
    intro n
    induction n with
    | zero => intro k ls hl hm hk ha; exact absurd hm (Nat.not_lt_zero _)
    | succ n ih2 =>
      intro k ls hl hm hk ha
      refine lv_iload_n hx hb dX5_isOnGround_2 rfl (lv_at hl 2 rfl) ?_
      refine lv_aload_n hx hb dX5_isOnGround_3 rfl (lv_at hl 0 rfl) ?_
      refine zg5_8 X hK hW m_262 dX5_isOnGround_4 ?_
      refine lv_icmp_ge (tgt := 46) hx hb dX5_isOnGround_7 (by decide) (fun b1 => ?_) (fun b1 => ?_)
      · refine lv_iconst (v := 0) hx hb dX5_isOnGround_46 (by decide) ?_
        exact ze_z hx hb hr hlocks (by rw [k_down, ← zge_of hV.2.2.2.1 (by decide) hk b1, ha]; rfl) dX5_isOnGround_47
      · have hlt : k < zn σ 508 := zlt_of hV.2.2.2.1 (by decide) hk b1
        have hltN := Nat.lt_of_lt_of_le hlt hV.2.2.2.1.2
        refine lv_aload_n hx hb dX5_isOnGround_10 rfl (lv_at hl 0 rfl) ?_
        refine lv_aload_n hx hb dX5_isOnGround_11 rfl (lv_at hl 0 rfl) ?_
        refine zg5_3 X hK hW m_251 dX5_isOnGround_12 ?_
        refine lv_iload_n hx hb dX5_isOnGround_15 rfl (lv_at hl 2 rfl) ?_
        refine zrn4 X hK hW (by omega) dX5_isOnGround_16 ?_
        refine lv_iload_n hx hb dX5_isOnGround_17 rfl (lv_at hl 1 rfl) ?_
        refine zcallRV (As := [.ref (ad 16 k), .int (nI u)]) (rest := []) X hml hK hW (ctX5_isReachedBy l D cy ad σ k (by omega) u (by omega) hV hlt) zmX5_isReachedBy (by decide) m_420 (zrecv hK (hW 0 0 rfl (by decide)) rfl) ⟨Nat.le_of_ble_eq_true rfl, Nat.le_of_ble_eq_true rfl⟩ ⟨Nat.zero_le _, Nat.zero_le _⟩ rfl hl.1 rfl (Nat.le_of_ble_eq_true rfl) dX5_isOnGround_18 ?_
        refine zb_eq (tgt := 40) hx hb dX5_isOnGround_21 (by decide) (fun b2 => ?_) (fun b2 => ?_)
        · refine lv_iinc (v := nI (k + 1)) (lv' := [(2, .int (nI (k + 1))), (0, .ref (ad 0 0)), (1, .int (nI u))]) hx hb dX5_isOnGround_40 hl (k := 2) rfl (nI_1 k) (by decide) rfl (fun ls hl => ?_)
          refine lv_goto (tgt := 2) hx hb dX5_isOnGround_43 (by decide) ?_
          exact ih2 (k + 1) _ (lv_sub hl [1, 2, 0] rfl) (by omega) hlt (by rw [zany, ha]; simp [b1, Int32.not_le.mp b1, b2])
        · refine lv_aload_n hx hb dX5_isOnGround_24 rfl (lv_at hl 0 rfl) ?_
          refine lv_aload_n hx hb dX5_isOnGround_25 rfl (lv_at hl 0 rfl) ?_
          refine zg5_3 X hK hW m_251 dX5_isOnGround_26 ?_
          refine lv_iload_n hx hb dX5_isOnGround_29 rfl (lv_at hl 2 rfl) ?_
          refine zrn4 X hK hW (by omega) dX5_isOnGround_30 ?_
          refine lv_iload_n hx hb dX5_isOnGround_31 rfl (lv_at hl 1 rfl) ?_
          refine zcallRV (As := [.ref (ad 16 k), .int (nI u)]) (rest := []) X hml hK hW (ctX5_isFreeOf l D cy ad σ k (by omega) u (by omega)) zmX5_isFreeOf (by decide) m_432 (zrecv hK (hW 0 0 rfl (by decide)) rfl) ⟨Nat.le_of_ble_eq_true rfl, Nat.le_of_ble_eq_true rfl⟩ ⟨Nat.zero_le _, Nat.zero_le _⟩ rfl hl.1 rfl (Nat.le_of_ble_eq_true rfl) dX5_isOnGround_32 ?_
          refine zb_ne (tgt := 40) hx hb dX5_isOnGround_35 (by decide) (fun b3 => ?_) (fun b3 => ?_)
          · refine lv_iinc (v := nI (k + 1)) (lv' := [(2, .int (nI (k + 1))), (0, .ref (ad 0 0)), (1, .int (nI u))]) hx hb dX5_isOnGround_40 hl (k := 2) rfl (nI_1 k) (by decide) rfl (fun ls hl => ?_)
            refine lv_goto (tgt := 2) hx hb dX5_isOnGround_43 (by decide) ?_
            exact ih2 (k + 1) _ (lv_sub hl [1, 2, 0] rfl) (by omega) hlt (by rw [zany, ha]; simp [b1, Int32.not_le.mp b1, b2, b3])
          · refine lv_iconst (v := 1) hx hb dX5_isOnGround_38 (by decide) ?_
            exact ze_z hx hb hr hlocks (by rw [k_down, zany_yes hlt (by simp [b1, Int32.not_le.mp b1, b2, b3])]; rfl) dX5_isOnGround_39
  exact loop2 _ 0 _ (lv_sub hl [1, 2, 0] rfl) (Nat.lt_succ_self _) (Nat.zero_le _) rfl
theorem zmX5_countGroundedBy : zmV yX5_countGroundedBy RX5 cX5_countGroundedBy 4 (some .int) 1 := ⟨m_943, m_944, m_2, m_945, rfl, by decide, by decide, by decide +kernel⟩
set_option maxRecDepth 100000 in
set_option maxHeartbeats 4000000 in
theorem ctX5_countGroundedBy (l : Launch) (D : va_G) (cy : Nat → ClassId) (ad : Nat → Nat → Nat) (σ : zS) (f : Nat) (hi_f : f < 12) (hV : zV σ) (hf : f < zn σ 508) : Met l yX5_countGroundedBy (zw yX5_countGroundedBy cX5_countGroundedBy 4 (some .int)) (zrm 3) (va_Pc [.ref (ad 0 0), .int (nI f)] (zB D cy (zW D cy ad zsL σ))) (zqR (.int (nI (k_cntG σ f)))) 0 0 (fun _ => False) := by
  refine zmet (by decide) rfl (Nat.le_of_ble_eq_true rfl) rfl (fun p e s m below meth c ls X hml hr hlocks hv hl => ?_)
  obtain ⟨hK, hW⟩ := hv
  obtain ⟨hx, hb, -, -⟩ := id X
  have hl : lv_has ls 4 [(0, .ref (ad 0 0)), (1, .int (nI f))] := hl
  refine lv_iconst (v := 0) hx hb dX5_countGroundedBy_0 (by decide) ?_
  refine lv_istore_n (lv' := [(2, .int 0), (0, .ref (ad 0 0)), (1, .int (nI f))]) hx hb dX5_countGroundedBy_1 rfl hl (by decide) rfl (fun ls hl => ?_)
  refine lv_iconst (v := 0) hx hb dX5_countGroundedBy_2 (by decide) ?_
  refine lv_istore_n (lv' := [(3, .int 0), (2, .int 0), (0, .ref (ad 0 0)), (1, .int (nI f))]) hx hb dX5_countGroundedBy_3 rfl hl (by decide) rfl (fun ls hl => ?_)
  have loop4 : ∀ (n : Nat) (k : Nat) (a : Int32) (ls : Array Slot), lv_has ls 4 [(0, .ref (ad 0 0)), (1, .int (nI f)), (2, .int a), (3, .int (nI k))] → zn σ 506 - k < n → (k ≤ zn σ 506) → (a = nI (zct (fun u => k_reach σ f u && !k_free σ f u) k)) → W p l e (zrm 3) s m ([.ref (ad 0 0), .int (nI f)] : List Value).toArray below meth c s.heap [] 0 0 (MQ below (zqR (.int (nI (k_cntG σ f)))) ([.ref (ad 0 0), .int (nI f)] : List Value).toArray s 0 0 (fun _ => False)) (F0 m 4 ls []) := by
    intro n
    induction n with
    | zero => intro k a ls hl hm hk ha; exact absurd hm (Nat.not_lt_zero _)
    | succ n ih4 =>
      intro k a ls hl hm hk ha
      refine lv_iload_n hx hb dX5_countGroundedBy_4 rfl (lv_at hl 3 rfl) ?_
      refine lv_aload_n hx hb dX5_countGroundedBy_5 rfl (lv_at hl 0 rfl) ?_
      refine zg5_6 X hK hW m_257 dX5_countGroundedBy_6 ?_
      refine lv_icmp_ge (tgt := 49) hx hb dX5_countGroundedBy_9 (by decide) (fun b1 => ?_) (fun b1 => ?_)
      · refine lv_iload_n hx hb dX5_countGroundedBy_49 rfl (lv_at hl 2 rfl) ?_
        exact ze_i hx hb hr hlocks (by rw [ha, zge_of hV.2.1 (by decide) hk b1]; rfl) dX5_countGroundedBy_50
      · have hlt : k < zn σ 506 := zlt_of hV.2.1 (by decide) hk b1
        have hltN := Nat.lt_of_lt_of_le hlt hV.2.1.2
        refine lv_aload_n hx hb dX5_countGroundedBy_12 rfl (lv_at hl 0 rfl) ?_
        refine lv_aload_n hx hb dX5_countGroundedBy_13 rfl (lv_at hl 0 rfl) ?_
        refine zg5_3 X hK hW m_251 dX5_countGroundedBy_14 ?_
        refine lv_iload_n hx hb dX5_countGroundedBy_17 rfl (lv_at hl 1 rfl) ?_
        refine zrn4 X hK hW (by omega) dX5_countGroundedBy_18 ?_
        refine lv_iload_n hx hb dX5_countGroundedBy_19 rfl (lv_at hl 3 rfl) ?_
        refine zcallRV (As := [.ref (ad 16 f), .int (nI k)]) (rest := []) X hml hK hW (ctX5_isReachedBy l D cy ad σ f (by omega) k (by omega) hV hf) zmX5_isReachedBy (by decide) m_420 (zrecv hK (hW 0 0 rfl (by decide)) rfl) ⟨Nat.le_of_ble_eq_true rfl, Nat.le_of_ble_eq_true rfl⟩ ⟨Nat.zero_le _, Nat.zero_le _⟩ rfl hl.1 rfl (Nat.le_of_ble_eq_true rfl) dX5_countGroundedBy_20 ?_
        refine zb_eq (tgt := 43) hx hb dX5_countGroundedBy_23 (by decide) (fun b2 => ?_) (fun b2 => ?_)
        · refine lv_iinc (v := nI (k + 1)) (lv' := [(3, .int (nI (k + 1))), (0, .ref (ad 0 0)), (1, .int (nI f)), (2, .int a)]) hx hb dX5_countGroundedBy_43 hl (k := 3) rfl (nI_1 k) (by decide) rfl (fun ls hl => ?_)
          refine lv_goto (tgt := 4) hx hb dX5_countGroundedBy_46 (by decide) ?_
          exact ih4 (k + 1) a _ (lv_sub hl [1, 2, 3, 0] rfl) (by omega) hlt (by rw [ha, zct, if_neg (by simp [b1, Int32.not_le.mp b1, b2]), Nat.add_zero])
        · refine lv_aload_n hx hb dX5_countGroundedBy_26 rfl (lv_at hl 0 rfl) ?_
          refine lv_aload_n hx hb dX5_countGroundedBy_27 rfl (lv_at hl 0 rfl) ?_
          refine zg5_3 X hK hW m_251 dX5_countGroundedBy_28 ?_
          refine lv_iload_n hx hb dX5_countGroundedBy_31 rfl (lv_at hl 1 rfl) ?_
          refine zrn4 X hK hW (by omega) dX5_countGroundedBy_32 ?_
          refine lv_iload_n hx hb dX5_countGroundedBy_33 rfl (lv_at hl 3 rfl) ?_
          refine zcallRV (As := [.ref (ad 16 f), .int (nI k)]) (rest := []) X hml hK hW (ctX5_isFreeOf l D cy ad σ f (by omega) k (by omega)) zmX5_isFreeOf (by decide) m_432 (zrecv hK (hW 0 0 rfl (by decide)) rfl) ⟨Nat.le_of_ble_eq_true rfl, Nat.le_of_ble_eq_true rfl⟩ ⟨Nat.zero_le _, Nat.zero_le _⟩ rfl hl.1 rfl (Nat.le_of_ble_eq_true rfl) dX5_countGroundedBy_34 ?_
          refine zb_ne (tgt := 43) hx hb dX5_countGroundedBy_37 (by decide) (fun b3 => ?_) (fun b3 => ?_)
          · refine lv_iinc (v := nI (k + 1)) (lv' := [(3, .int (nI (k + 1))), (0, .ref (ad 0 0)), (1, .int (nI f)), (2, .int a)]) hx hb dX5_countGroundedBy_43 hl (k := 3) rfl (nI_1 k) (by decide) rfl (fun ls hl => ?_)
            refine lv_goto (tgt := 4) hx hb dX5_countGroundedBy_46 (by decide) ?_
            exact ih4 (k + 1) a _ (lv_sub hl [1, 2, 3, 0] rfl) (by omega) hlt (by rw [ha, zct, if_neg (by simp [b1, Int32.not_le.mp b1, b2, b3]), Nat.add_zero])
          · refine lv_iinc (v := a + 1) (lv' := [(2, .int (a + 1)), (0, .ref (ad 0 0)), (1, .int (nI f)), (3, .int (nI k))]) hx hb dX5_countGroundedBy_40 hl (k := 2) rfl rfl (by decide) rfl (fun ls hl => ?_)
            refine lv_iinc (v := nI (k + 1)) (lv' := [(3, .int (nI (k + 1))), (2, .int (a + 1)), (0, .ref (ad 0 0)), (1, .int (nI f))]) hx hb dX5_countGroundedBy_43 hl (k := 3) rfl (nI_1 k) (by decide) rfl (fun ls hl => ?_)
            refine lv_goto (tgt := 4) hx hb dX5_countGroundedBy_46 (by decide) ?_
            exact ih4 (k + 1) (a + 1) _ (lv_sub hl [2, 3, 1, 0] rfl) (by omega) hlt (by rw [ha, zct, if_pos (by simp [b1, Int32.not_le.mp b1, b2, b3]), ← nI_1])
  exact loop4 _ 0 0 _ (lv_sub hl [2, 3, 1, 0] rfl) (Nat.lt_succ_self _) (Nat.zero_le _) rfl
theorem zmX5_isFitToJump : zmV yX5_isFitToJump RX5 cX5_isFitToJump 2 (some .boolean) 1 := ⟨m_401, m_402, m_2, m_403, rfl, by decide, by decide, by decide +kernel⟩
set_option maxRecDepth 100000 in
set_option maxHeartbeats 4000000 in
theorem ctX5_isFitToJump (l : Launch) (D : va_G) (cy : Nat → ClassId) (ad : Nat → Nat → Nat) (σ : zS) (u : Nat) (hi_u : u < 24) (hV : zV σ) : Met l yX5_isFitToJump (zw yX5_isFitToJump cX5_isFitToJump 2 (some .boolean)) (zrm 4) (va_Pc [.ref (ad 0 0), .int (nI u)] (zB D cy (zW D cy ad zsL σ))) (zqR (.int (bI (k_fit σ u)))) 0 0 (fun _ => False) := by
  refine zmet (by decide) rfl (Nat.le_of_ble_eq_true rfl) rfl (fun p e s m below meth c ls X hml hr hlocks hv hl => ?_)
  obtain ⟨hK, hW⟩ := hv
  obtain ⟨hx, hb, -, -⟩ := id X
  have hl : lv_has ls 2 [(0, .ref (ad 0 0)), (1, .int (nI u))] := hl
  refine lv_aload_n hx hb dX5_isFitToJump_0 rfl (lv_at hl 0 rfl) ?_
  refine lv_aload_n hx hb dX5_isFitToJump_1 rfl (lv_at hl 0 rfl) ?_
  refine zg5_1 X hK hW m_246 dX5_isFitToJump_2 ?_
  refine lv_iload_n hx hb dX5_isFitToJump_5 rfl (lv_at hl 1 rfl) ?_
  refine zrn2 X hK hW hi_u dX5_isFitToJump_6 ?_
  refine zcallRV (As := [.ref (ad 11 u)]) (rest := []) X hml hK hW (ctX5_isTooOld l D cy ad σ u hi_u hV.2.2.2.2.1) zmX5_isTooOld (by decide) m_404 (zrecv hK (hW 0 0 rfl (by decide)) rfl) ⟨Nat.le_of_ble_eq_true rfl, Nat.le_of_ble_eq_true rfl⟩ ⟨Nat.zero_le _, Nat.zero_le _⟩ rfl hl.1 rfl (Nat.le_of_ble_eq_true rfl) dX5_isFitToJump_7 ?_
  refine zb_ne (tgt := 25) hx hb dX5_isFitToJump_10 (by decide) (fun b1 => ?_) (fun b1 => ?_)
  · refine lv_iconst (v := 0) hx hb dX5_isFitToJump_25 (by decide) ?_
    exact ze_z hx hb hr hlocks (by simp [bI_t, bI_f, k_fit, b1]) dX5_isFitToJump_26
  · refine lv_aload_n hx hb dX5_isFitToJump_13 rfl (lv_at hl 0 rfl) ?_
    refine lv_iload_n hx hb dX5_isFitToJump_14 rfl (lv_at hl 1 rfl) ?_
    refine zcallRV (As := [.int (nI u)]) (rest := []) X hml hK hW (ctX5_isOnGround l D cy ad σ u (by omega) hV) zmX5_isOnGround (by decide) m_416 (zrecv hK (hW 0 0 rfl (by decide)) rfl) ⟨Nat.le_of_ble_eq_true rfl, Nat.le_of_ble_eq_true rfl⟩ ⟨Nat.zero_le _, Nat.zero_le _⟩ rfl hl.1 rfl (Nat.le_of_ble_eq_true rfl) dX5_isFitToJump_15 ?_
    refine zb_ne (tgt := 25) hx hb dX5_isFitToJump_18 (by decide) (fun b2 => ?_) (fun b2 => ?_)
    · refine lv_iconst (v := 0) hx hb dX5_isFitToJump_25 (by decide) ?_
      exact ze_z hx hb hr hlocks (by simp [bI_t, bI_f, k_fit, b1, b2]) dX5_isFitToJump_26
    · refine lv_iconst (v := 1) hx hb dX5_isFitToJump_21 (by decide) ?_
      refine lv_goto (tgt := 26) hx hb dX5_isFitToJump_22 (by decide) ?_
      exact ze_z hx hb hr hlocks (by simp [bI_t, bI_f, k_fit, b1, b2]) dX5_isFitToJump_26
theorem zmX5_countSharers : zmV yX5_countSharers RX5 cX5_countSharers 4 (some .int) 1 := ⟨m_1113, m_1114, m_2, m_1115, rfl, by decide, by decide, by decide +kernel⟩
set_option maxRecDepth 100000 in
set_option maxHeartbeats 4000000 in
theorem ctX5_countSharers (l : Launch) (D : va_G) (cy : Nat → ClassId) (ad : Nat → Nat → Nat) (σ : zS) (u : Nat) (hi_u : u < 24) (hV : zV σ) : Met l yX5_countSharers (zw yX5_countSharers cX5_countSharers 4 (some .int)) (zrm 0) (va_Pc [.ref (ad 0 0), .int (nI u)] (zB D cy (zW D cy ad zsL σ))) (zqR (.int (nI (k_shar σ u)))) 0 0 (fun _ => False) := by
  refine zmet (by decide) rfl (Nat.le_of_ble_eq_true rfl) rfl (fun p e s m below meth c ls X hml hr hlocks hv hl => ?_)
  obtain ⟨hK, hW⟩ := hv
  obtain ⟨hx, hb, -, -⟩ := id X
  have hl : lv_has ls 4 [(0, .ref (ad 0 0)), (1, .int (nI u))] := hl
  refine lv_iconst (v := 0) hx hb dX5_countSharers_0 (by decide) ?_
  refine lv_istore_n (lv' := [(2, .int 0), (0, .ref (ad 0 0)), (1, .int (nI u))]) hx hb dX5_countSharers_1 rfl hl (by decide) rfl (fun ls hl => ?_)
  refine lv_iconst (v := 0) hx hb dX5_countSharers_2 (by decide) ?_
  refine lv_istore_n (lv' := [(3, .int 0), (2, .int 0), (0, .ref (ad 0 0)), (1, .int (nI u))]) hx hb dX5_countSharers_3 rfl hl (by decide) rfl (fun ls hl => ?_)
  have loop4 : ∀ (n : Nat) (k : Nat) (a : Int32) (ls : Array Slot), lv_has ls 4 [(0, .ref (ad 0 0)), (1, .int (nI u)), (2, .int a), (3, .int (nI k))] → zn σ 506 - k < n → (k ≤ zn σ 506) → (a = nI (zct (fun i => !decide (nI i = nI u) && !decide (zI σ 111 i &&& zI σ 111 u = 0)) k)) → W p l e (zrm 0) s m ([.ref (ad 0 0), .int (nI u)] : List Value).toArray below meth c s.heap [] 0 0 (MQ below (zqR (.int (nI (k_shar σ u)))) ([.ref (ad 0 0), .int (nI u)] : List Value).toArray s 0 0 (fun _ => False)) (F0 m 4 ls []) := by
    intro n
    induction n with
    | zero => intro k a ls hl hm hk ha; exact absurd hm (Nat.not_lt_zero _)
    | succ n ih4 =>
      intro k a ls hl hm hk ha
      refine lv_iload_n hx hb dX5_countSharers_4 rfl (lv_at hl 3 rfl) ?_
      refine lv_aload_n hx hb dX5_countSharers_5 rfl (lv_at hl 0 rfl) ?_
      refine zg5_6 X hK hW m_257 dX5_countSharers_6 ?_
      refine lv_icmp_ge (tgt := 48) hx hb dX5_countSharers_9 (by decide) (fun b1 => ?_) (fun b1 => ?_)
      · refine lv_iload_n hx hb dX5_countSharers_48 rfl (lv_at hl 2 rfl) ?_
        exact ze_i hx hb hr hlocks (by rw [ha, zge_of hV.2.1 (by decide) hk b1]; rfl) dX5_countSharers_49
      · have hlt : k < zn σ 506 := zlt_of hV.2.1 (by decide) hk b1
        have hltN := Nat.lt_of_lt_of_le hlt hV.2.1.2
        refine lv_iload_n hx hb dX5_countSharers_12 rfl (lv_at hl 3 rfl) ?_
        refine lv_iload_n hx hb dX5_countSharers_13 rfl (lv_at hl 1 rfl) ?_
        refine lv_icmp_eq (tgt := 42) hx hb dX5_countSharers_14 (by decide) (fun b2 => ?_) (fun b2 => ?_)
        · refine lv_iinc (v := nI (k + 1)) (lv' := [(3, .int (nI (k + 1))), (0, .ref (ad 0 0)), (1, .int (nI u)), (2, .int a)]) hx hb dX5_countSharers_42 hl (k := 3) rfl (nI_1 k) (by decide) rfl (fun ls hl => ?_)
          refine lv_goto (tgt := 4) hx hb dX5_countSharers_45 (by decide) ?_
          exact ih4 (k + 1) a _ (lv_sub hl [1, 2, 3, 0] rfl) (by omega) hlt (by rw [ha, zct, if_neg (by simp [b1, Int32.not_le.mp b1, b2]), Nat.add_zero])
        · refine lv_aload_n hx hb dX5_countSharers_17 rfl (lv_at hl 0 rfl) ?_
          refine zg5_1 X hK hW m_246 dX5_countSharers_18 ?_
          refine lv_iload_n hx hb dX5_countSharers_21 rfl (lv_at hl 3 rfl) ?_
          refine zrn2 X hK hW (by omega) dX5_countSharers_22 ?_
          refine zg1_11 X hK hW (by omega) m_123 dX5_countSharers_23 ?_
          refine lv_aload_n hx hb dX5_countSharers_26 rfl (lv_at hl 0 rfl) ?_
          refine zg5_1 X hK hW m_246 dX5_countSharers_27 ?_
          refine lv_iload_n hx hb dX5_countSharers_30 rfl (lv_at hl 1 rfl) ?_
          refine zrn2 X hK hW hi_u dX5_countSharers_31 ?_
          refine zg1_11 X hK hW hi_u m_123 dX5_countSharers_32 ?_
          refine lv_iand hx hb dX5_countSharers_35 ?_
          refine lv_if_eq (tgt := 42) hx hb dX5_countSharers_36 (by decide) (fun b3 => ?_) (fun b3 => ?_)
          · refine lv_iinc (v := nI (k + 1)) (lv' := [(3, .int (nI (k + 1))), (0, .ref (ad 0 0)), (1, .int (nI u)), (2, .int a)]) hx hb dX5_countSharers_42 hl (k := 3) rfl (nI_1 k) (by decide) rfl (fun ls hl => ?_)
            refine lv_goto (tgt := 4) hx hb dX5_countSharers_45 (by decide) ?_
            exact ih4 (k + 1) a _ (lv_sub hl [1, 2, 3, 0] rfl) (by omega) hlt (by rw [ha, zct, if_neg (by simp [b1, Int32.not_le.mp b1, b2, Ne.symm b2, b3]), Nat.add_zero])
          · refine lv_iinc (v := a + 1) (lv' := [(2, .int (a + 1)), (0, .ref (ad 0 0)), (1, .int (nI u)), (3, .int (nI k))]) hx hb dX5_countSharers_39 hl (k := 2) rfl rfl (by decide) rfl (fun ls hl => ?_)
            refine lv_iinc (v := nI (k + 1)) (lv' := [(3, .int (nI (k + 1))), (2, .int (a + 1)), (0, .ref (ad 0 0)), (1, .int (nI u))]) hx hb dX5_countSharers_42 hl (k := 3) rfl (nI_1 k) (by decide) rfl (fun ls hl => ?_)
            refine lv_goto (tgt := 4) hx hb dX5_countSharers_45 (by decide) ?_
            exact ih4 (k + 1) (a + 1) _ (lv_sub hl [2, 3, 1, 0] rfl) (by omega) hlt (by rw [ha, zct, if_pos (by simp [b1, Int32.not_le.mp b1, b2, Ne.symm b2, b3, Ne.symm b3]), ← nI_1])
  exact loop4 _ 0 0 _ (lv_sub hl [2, 3, 1, 0] rfl) (Nat.lt_succ_self _) (Nat.zero_le _) rfl
theorem zmX5_firstReserveToRepack : zmV yX5_firstReserveToRepack RX5 cX5_firstReserveToRepack 6 (some .int) 0 := ⟨m_1172, m_1173, m_2, m_1174, rfl, by decide, by decide, by decide +kernel⟩
set_option maxRecDepth 100000 in
set_option maxHeartbeats 4000000 in
theorem ctX5_firstReserveToRepack (l : Launch) (D : va_G) (cy : Nat → ClassId) (ad : Nat → Nat → Nat) (σ : zS) (hV : zV σ) : Met l yX5_firstReserveToRepack (zw yX5_firstReserveToRepack cX5_firstReserveToRepack 6 (some .int)) (zrm 3) (va_Pc [.ref (ad 0 0)] (zB D cy (zW D cy ad zsL σ))) (zqR (.int ((k_first σ (zn σ 506)).1))) 0 0 (fun _ => False) := by
  refine zmet (by decide) rfl (Nat.le_of_ble_eq_true rfl) rfl (fun p e s m below meth c ls X hml hr hlocks hv hl => ?_)
  obtain ⟨hK, hW⟩ := hv
  obtain ⟨hx, hb, -, -⟩ := id X
  have hl : lv_has ls 6 [(0, .ref (ad 0 0))] := hl
  refine lv_iconst (v := (-1)) hx hb dX5_firstReserveToRepack_0 (by decide) ?_
  refine lv_istore_n (lv' := [(1, .int (-1)), (0, .ref (ad 0 0))]) hx hb dX5_firstReserveToRepack_1 rfl hl (by decide) rfl (fun ls hl => ?_)
  refine lv_iconst (v := 0) hx hb dX5_firstReserveToRepack_2 (by decide) ?_
  refine lv_istore_n (lv' := [(2, .int 0), (1, .int (-1)), (0, .ref (ad 0 0))]) hx hb dX5_firstReserveToRepack_3 rfl hl (by decide) rfl (fun ls hl => ?_)
  refine lv_iconst (v := 0) hx hb dX5_firstReserveToRepack_4 (by decide) ?_
  refine lv_istore_n (lv' := [(3, .int 0), (2, .int 0), (1, .int (-1)), (0, .ref (ad 0 0))]) hx hb dX5_firstReserveToRepack_5 rfl hl (by decide) rfl (fun ls hl => ?_)
  have loop6 : ∀ (n : Nat) (k : Nat) (a : Int32) (a2 : Int32) (ls : Array Slot), lv_has ls 6 [(0, .ref (ad 0 0)), (1, .int a), (2, .int a2), (3, .int (nI k))] → zn σ 506 - k < n → (k ≤ zn σ 506) → ((a, a2) = k_first σ k) → W p l e (zrm 3) s m ([.ref (ad 0 0)] : List Value).toArray below meth c s.heap [] 0 0 (MQ below (zqR (.int ((k_first σ (zn σ 506)).1))) ([.ref (ad 0 0)] : List Value).toArray s 0 0 (fun _ => False)) (F0 m 6 ls []) := by
    intro n
    induction n with
    | zero => intro k a a2 ls hl hm hk ha; exact absurd hm (Nat.not_lt_zero _)
    | succ n ih6 =>
      intro k a a2 ls hl hm hk ha
      refine lv_iload_n hx hb dX5_firstReserveToRepack_6 rfl (lv_at hl 3 rfl) ?_
      refine lv_aload_n hx hb dX5_firstReserveToRepack_7 rfl (lv_at hl 0 rfl) ?_
      refine zg5_6 X hK hW m_257 dX5_firstReserveToRepack_8 ?_
      refine lv_icmp_ge (tgt := 80) hx hb dX5_firstReserveToRepack_11 (by decide) (fun b1 => ?_) (fun b1 => ?_)
      · refine lv_iload_n hx hb dX5_firstReserveToRepack_80 rfl (lv_at hl 1 rfl) ?_
        exact ze_i hx hb hr hlocks (by rw [← zge_of hV.2.1 (by decide) hk b1, ← ha]) dX5_firstReserveToRepack_81
      · have hlt : k < zn σ 506 := zlt_of hV.2.1 (by decide) hk b1
        have hltN := Nat.lt_of_lt_of_le hlt hV.2.1.2
        refine lv_aload_n hx hb dX5_firstReserveToRepack_14 rfl (lv_at hl 0 rfl) ?_
        refine zg5_1 X hK hW m_246 dX5_firstReserveToRepack_15 ?_
        refine lv_iload_n hx hb dX5_firstReserveToRepack_18 rfl (lv_at hl 3 rfl) ?_
        refine zrn2 X hK hW (by omega) dX5_firstReserveToRepack_19 ?_
        refine lv_astore (lv' := [(4, .ref (ad 11 k)), (0, .ref (ad 0 0)), (1, .int a), (2, .int a2), (3, .int (nI k))]) hx hb dX5_firstReserveToRepack_20 hl (by decide) rfl (fun ls hl => ?_)
        refine lv_aload hx hb dX5_firstReserveToRepack_22 (lv_at hl 0 rfl) ?_
        refine zg1_0 X hK hW (by omega) m_96 dX5_firstReserveToRepack_24 ?_
        refine lv_bipush (v := 114) hx hb dX5_firstReserveToRepack_27 (by decide) ?_
        refine lv_icmp_ne (tgt := 74) hx hb dX5_firstReserveToRepack_29 (by decide) (fun b2 => ?_) (fun b2 => ?_)
        · refine lv_iinc (v := nI (k + 1)) (lv' := [(3, .int (nI (k + 1))), (4, .ref (ad 11 k)), (0, .ref (ad 0 0)), (1, .int a), (2, .int a2)]) hx hb dX5_firstReserveToRepack_74 hl (k := 4) rfl (nI_1 k) (by decide) rfl (fun ls hl => ?_)
          refine lv_goto (tgt := 6) hx hb dX5_firstReserveToRepack_77 (by decide) ?_
          exact ih6 (k + 1) a a2 _ (lv_sub hl [2, 3, 4, 0] rfl) (by omega) hlt (by simp [k_first, ← ha, b1, Int32.not_le.mp b1, b2, Ne.symm b2])
        · refine lv_aload hx hb dX5_firstReserveToRepack_32 (lv_at hl 0 rfl) ?_
          refine zg1_5 X hK hW (by omega) m_107 dX5_firstReserveToRepack_34 ?_
          refine lv_bipush (v := 107) hx hb dX5_firstReserveToRepack_37 (by decide) ?_
          refine lv_icmp_ne (tgt := 74) hx hb dX5_firstReserveToRepack_39 (by decide) (fun b3 => ?_) (fun b3 => ?_)
          · refine lv_iinc (v := nI (k + 1)) (lv' := [(3, .int (nI (k + 1))), (4, .ref (ad 11 k)), (0, .ref (ad 0 0)), (1, .int a), (2, .int a2)]) hx hb dX5_firstReserveToRepack_74 hl (k := 4) rfl (nI_1 k) (by decide) rfl (fun ls hl => ?_)
            refine lv_goto (tgt := 6) hx hb dX5_firstReserveToRepack_77 (by decide) ?_
            exact ih6 (k + 1) a a2 _ (lv_sub hl [2, 3, 4, 0] rfl) (by omega) hlt (by simp [k_first, ← ha, b1, Int32.not_le.mp b1, b2, b3, Ne.symm b3])
          · refine lv_aload_n hx hb dX5_firstReserveToRepack_42 rfl (lv_at hl 1 rfl) ?_
            refine lv_aload hx hb dX5_firstReserveToRepack_43 (lv_at hl 0 rfl) ?_
            refine zcallRV (As := [.ref (ad 11 k)]) (rest := []) X hml hK hW (ctX5_isTooOld l D cy ad σ k (by omega) hV.2.2.2.2.1) zmX5_isTooOld (by decide) m_404 (zrecv hK (hW 0 0 rfl (by decide)) rfl) ⟨Nat.le_of_ble_eq_true rfl, Nat.le_of_ble_eq_true rfl⟩ ⟨Nat.zero_le _, Nat.zero_le _⟩ rfl hl.1 rfl (Nat.le_of_ble_eq_true rfl) dX5_firstReserveToRepack_45 ?_
            refine zb_ne (tgt := 74) hx hb dX5_firstReserveToRepack_48 (by decide) (fun b4 => ?_) (fun b4 => ?_)
            · refine lv_iinc (v := nI (k + 1)) (lv' := [(3, .int (nI (k + 1))), (4, .ref (ad 11 k)), (0, .ref (ad 0 0)), (1, .int a), (2, .int a2)]) hx hb dX5_firstReserveToRepack_74 hl (k := 4) rfl (nI_1 k) (by decide) rfl (fun ls hl => ?_)
              refine lv_goto (tgt := 6) hx hb dX5_firstReserveToRepack_77 (by decide) ?_
              exact ih6 (k + 1) a a2 _ (lv_sub hl [2, 3, 4, 0] rfl) (by omega) hlt (by simp [k_first, ← ha, b1, Int32.not_le.mp b1, b2, b3, b4])
            · refine lv_aload_n hx hb dX5_firstReserveToRepack_51 rfl (lv_at hl 1 rfl) ?_
              refine lv_aload hx hb dX5_firstReserveToRepack_52 (lv_at hl 0 rfl) ?_
              refine zcallRV (As := [.ref (ad 11 k)]) (rest := []) X hml hK hW (ctX5_daysLeft l D cy ad σ k (by omega) hV.2.2.2.2.1) zmX5_daysLeft (by decide) m_408 (zrecv hK (hW 0 0 rfl (by decide)) rfl) ⟨Nat.le_of_ble_eq_true rfl, Nat.le_of_ble_eq_true rfl⟩ ⟨Nat.zero_le _, Nat.zero_le _⟩ rfl hl.1 rfl (Nat.le_of_ble_eq_true rfl) dX5_firstReserveToRepack_54 ?_
              refine lv_istore (lv' := [(5, .int (k_left σ k)), (4, .ref (ad 11 k)), (0, .ref (ad 0 0)), (1, .int a), (2, .int a2), (3, .int (nI k))]) hx hb dX5_firstReserveToRepack_57 hl (by decide) rfl (fun ls hl => ?_)
              refine lv_iload_n hx hb dX5_firstReserveToRepack_59 rfl (lv_at hl 3 rfl) ?_
              refine lv_if_lt (tgt := 69) hx hb dX5_firstReserveToRepack_60 (by decide) (fun b5 => ?_) (fun b5 => ?_)
              · refine lv_iload_n hx hb dX5_firstReserveToRepack_69 rfl (lv_at hl 5 rfl) ?_
                refine lv_istore_n (lv' := [(1, .int (nI k)), (5, .int (k_left σ k)), (4, .ref (ad 11 k)), (0, .ref (ad 0 0)), (2, .int a2), (3, .int (nI k))]) hx hb dX5_firstReserveToRepack_70 rfl hl (by decide) rfl (fun ls hl => ?_)
                refine lv_iload hx hb dX5_firstReserveToRepack_71 (lv_at hl 1 rfl) ?_
                refine lv_istore_n (lv' := [(2, .int (k_left σ k)), (1, .int (nI k)), (5, .int (k_left σ k)), (4, .ref (ad 11 k)), (0, .ref (ad 0 0)), (3, .int (nI k))]) hx hb dX5_firstReserveToRepack_73 rfl hl (by decide) rfl (fun ls hl => ?_)
                refine lv_iinc (v := nI (k + 1)) (lv' := [(3, .int (nI (k + 1))), (2, .int (k_left σ k)), (1, .int (nI k)), (5, .int (k_left σ k)), (4, .ref (ad 11 k)), (0, .ref (ad 0 0))]) hx hb dX5_firstReserveToRepack_74 hl (k := 5) rfl (nI_1 k) (by decide) rfl (fun ls hl => ?_)
                refine lv_goto (tgt := 6) hx hb dX5_firstReserveToRepack_77 (by decide) ?_
                exact ih6 (k + 1) (nI k) (k_left σ k) _ (lv_sub hl [5, 2, 1, 0] rfl) (by omega) hlt (by simp [k_first, ← ha, b1, Int32.not_le.mp b1, b2, b3, b4, b5, Int32.not_le.mpr b5])
              · refine lv_iload hx hb dX5_firstReserveToRepack_63 (lv_at hl 0 rfl) ?_
                refine lv_iload_n hx hb dX5_firstReserveToRepack_65 rfl (lv_at hl 4 rfl) ?_
                refine lv_icmp_ge (tgt := 74) hx hb dX5_firstReserveToRepack_66 (by decide) (fun b6 => ?_) (fun b6 => ?_)
                · refine lv_iinc (v := nI (k + 1)) (lv' := [(3, .int (nI (k + 1))), (5, .int (k_left σ k)), (4, .ref (ad 11 k)), (0, .ref (ad 0 0)), (1, .int a), (2, .int a2)]) hx hb dX5_firstReserveToRepack_74 hl (k := 5) rfl (nI_1 k) (by decide) rfl (fun ls hl => ?_)
                  refine lv_goto (tgt := 6) hx hb dX5_firstReserveToRepack_77 (by decide) ?_
                  exact ih6 (k + 1) a a2 _ (lv_sub hl [3, 4, 5, 0] rfl) (by omega) hlt (by simp [k_first, ← ha, b1, Int32.not_le.mp b1, b2, b3, b4, b5, Int32.not_lt.mp b5, b6, Int32.not_lt.mpr b6])
                · refine lv_iload_n hx hb dX5_firstReserveToRepack_69 rfl (lv_at hl 5 rfl) ?_
                  refine lv_istore_n (lv' := [(1, .int (nI k)), (5, .int (k_left σ k)), (4, .ref (ad 11 k)), (0, .ref (ad 0 0)), (2, .int a2), (3, .int (nI k))]) hx hb dX5_firstReserveToRepack_70 rfl hl (by decide) rfl (fun ls hl => ?_)
                  refine lv_iload hx hb dX5_firstReserveToRepack_71 (lv_at hl 1 rfl) ?_
                  refine lv_istore_n (lv' := [(2, .int (k_left σ k)), (1, .int (nI k)), (5, .int (k_left σ k)), (4, .ref (ad 11 k)), (0, .ref (ad 0 0)), (3, .int (nI k))]) hx hb dX5_firstReserveToRepack_73 rfl hl (by decide) rfl (fun ls hl => ?_)
                  refine lv_iinc (v := nI (k + 1)) (lv' := [(3, .int (nI (k + 1))), (2, .int (k_left σ k)), (1, .int (nI k)), (5, .int (k_left σ k)), (4, .ref (ad 11 k)), (0, .ref (ad 0 0))]) hx hb dX5_firstReserveToRepack_74 hl (k := 5) rfl (nI_1 k) (by decide) rfl (fun ls hl => ?_)
                  refine lv_goto (tgt := 6) hx hb dX5_firstReserveToRepack_77 (by decide) ?_
                  exact ih6 (k + 1) (nI k) (k_left σ k) _ (lv_sub hl [5, 2, 1, 0] rfl) (by omega) hlt (by simp [k_first, ← ha, b1, Int32.not_le.mp b1, b2, b3, b4, b5, Int32.not_lt.mp b5, b6, Int32.not_le.mp b6])
  exact loop6 _ 0 (-1) 0 _ (lv_sub hl [3, 2, 1, 0] rfl) (Nat.lt_succ_self _) (Nat.zero_le _) rfl
theorem zmX5_sumOfDeposits : zmV yX5_sumOfDeposits RX5 cX5_sumOfDeposits 4 (some .long) 0 := ⟨m_1196, m_1197, m_2, m_1198, rfl, by decide, by decide, by decide +kernel⟩
set_option maxRecDepth 100000 in
set_option maxHeartbeats 4000000 in
theorem ctX5_sumOfDeposits (l : Launch) (D : va_G) (cy : Nat → ClassId) (ad : Nat → Nat → Nat) (σ : zS) (hV : zV σ) : Met l yX5_sumOfDeposits (zw yX5_sumOfDeposits cX5_sumOfDeposits 4 (some .long)) (zrm 0) (va_Pc [.ref (ad 0 0)] (zB D cy (zW D cy ad zsL σ))) (zqR (.long (k_held σ))) 0 0 (fun _ => False) := by
  refine zmet (by decide) rfl (Nat.le_of_ble_eq_true rfl) rfl (fun p e s m below meth c ls X hml hr hlocks hv hl => ?_)
  obtain ⟨hK, hW⟩ := hv
  obtain ⟨hx, hb, -, -⟩ := id X
  have hl : lv_has ls 4 [(0, .ref (ad 0 0))] := hl
  refine lv_lconst (v := 0) hx hb dX5_sumOfDeposits_0 rfl ?_
  refine lv_lstore_n (lv' := [(1, .long 0), (0, .ref (ad 0 0))]) hx hb dX5_sumOfDeposits_1 rfl hl (by decide) rfl (fun ls hl => ?_)
  refine lv_iconst (v := 0) hx hb dX5_sumOfDeposits_2 (by decide) ?_
  refine lv_istore_n (lv' := [(3, .int 0), (1, .long 0), (0, .ref (ad 0 0))]) hx hb dX5_sumOfDeposits_3 rfl hl (by decide) rfl (fun ls hl => ?_)
  have loop4 : ∀ (n : Nat) (k : Nat) (a : Int64) (ls : Array Slot), lv_has ls 4 [(0, .ref (ad 0 0)), (1, .long a), (3, .int (nI k))] → zn σ 506 - k < n → (k ≤ zn σ 506) → (a = zsmL (fun c => (zI σ 119 c).toInt64) k) → W p l e (zrm 0) s m ([.ref (ad 0 0)] : List Value).toArray below meth c s.heap [] 0 0 (MQ below (zqR (.long (k_held σ))) ([.ref (ad 0 0)] : List Value).toArray s 0 0 (fun _ => False)) (F0 m 4 ls []) := by
    intro n
    induction n with
    | zero => intro k a ls hl hm hk ha; exact absurd hm (Nat.not_lt_zero _)
    | succ n ih4 =>
      intro k a ls hl hm hk ha
      refine lv_iload_n hx hb dX5_sumOfDeposits_4 rfl (lv_at hl 2 rfl) ?_
      refine lv_aload_n hx hb dX5_sumOfDeposits_5 rfl (lv_at hl 0 rfl) ?_
      refine zg5_6 X hK hW m_257 dX5_sumOfDeposits_6 ?_
      refine lv_icmp_ge (tgt := 31) hx hb dX5_sumOfDeposits_9 (by decide) (fun b1 => ?_) (fun b1 => ?_)
      · refine lv_lload_n hx hb dX5_sumOfDeposits_31 rfl (lv_at hl 1 rfl) ?_
        exact ze_l hx hb hr hlocks (by rw [ha, zge_of hV.2.1 (by decide) hk b1]; rfl) dX5_sumOfDeposits_32
      · have hlt : k < zn σ 506 := zlt_of hV.2.1 (by decide) hk b1
        have hltN := Nat.lt_of_lt_of_le hlt hV.2.1.2
        refine lv_lload_n hx hb dX5_sumOfDeposits_12 rfl (lv_at hl 1 rfl) ?_
        refine lv_aload_n hx hb dX5_sumOfDeposits_13 rfl (lv_at hl 0 rfl) ?_
        refine zg5_1 X hK hW m_246 dX5_sumOfDeposits_14 ?_
        refine lv_iload_n hx hb dX5_sumOfDeposits_17 rfl (lv_at hl 2 rfl) ?_
        refine zrn2 X hK hW (by omega) dX5_sumOfDeposits_18 ?_
        refine zg1_19 X hK hW (by omega) m_138 dX5_sumOfDeposits_19 ?_
        refine lv_i2l hx hb dX5_sumOfDeposits_22 rfl ?_
        refine lv_ladd hx hb dX5_sumOfDeposits_23 ?_
        refine lv_lstore_n (lv' := [(1, .long (a + ((zI σ 119 k).toInt64))), (0, .ref (ad 0 0)), (3, .int (nI k))]) hx hb dX5_sumOfDeposits_24 rfl hl (by decide) rfl (fun ls hl => ?_)
        refine lv_iinc (v := nI (k + 1)) (lv' := [(3, .int (nI (k + 1))), (1, .long (a + ((zI σ 119 k).toInt64))), (0, .ref (ad 0 0))]) hx hb dX5_sumOfDeposits_25 hl (k := 2) rfl (nI_1 k) (by decide) rfl (fun ls hl => ?_)
        refine lv_goto (tgt := 4) hx hb dX5_sumOfDeposits_28 (by decide) ?_
        exact ih4 (k + 1) (a + ((zI σ 119 k).toInt64)) _ (lv_sub hl [2, 1, 0] rfl) (by omega) hlt (by rw [ha, zsmL])
  exact loop4 _ 0 0 _ (lv_sub hl [2, 1, 0] rfl) (Nat.lt_succ_self _) (Nat.zero_le _) rfl
theorem zmX5_countGrounded : zmV yX5_countGrounded RX5 cX5_countGrounded 3 (some .int) 0 := ⟨m_1159, m_1160, m_2, m_1161, rfl, by decide, by decide, by decide +kernel⟩
set_option maxRecDepth 100000 in
set_option maxHeartbeats 4000000 in
theorem ctX5_countGrounded (l : Launch) (D : va_G) (cy : Nat → ClassId) (ad : Nat → Nat → Nat) (σ : zS) (hV : zV σ) : Met l yX5_countGrounded (zw yX5_countGrounded cX5_countGrounded 3 (some .int)) (zrm 4) (va_Pc [.ref (ad 0 0)] (zB D cy (zW D cy ad zsL σ))) (zqR (.int (nI (k_cntD σ)))) 0 0 (fun _ => False) := by
  refine zmet (by decide) rfl (Nat.le_of_ble_eq_true rfl) rfl (fun p e s m below meth c ls X hml hr hlocks hv hl => ?_)
  obtain ⟨hK, hW⟩ := hv
  obtain ⟨hx, hb, -, -⟩ := id X
  have hl : lv_has ls 3 [(0, .ref (ad 0 0))] := hl
  refine lv_iconst (v := 0) hx hb dX5_countGrounded_0 (by decide) ?_
  refine lv_istore_n (lv' := [(1, .int 0), (0, .ref (ad 0 0))]) hx hb dX5_countGrounded_1 rfl hl (by decide) rfl (fun ls hl => ?_)
  refine lv_iconst (v := 0) hx hb dX5_countGrounded_2 (by decide) ?_
  refine lv_istore_n (lv' := [(2, .int 0), (1, .int 0), (0, .ref (ad 0 0))]) hx hb dX5_countGrounded_3 rfl hl (by decide) rfl (fun ls hl => ?_)
  have loop4 : ∀ (n : Nat) (k : Nat) (a : Int32) (ls : Array Slot), lv_has ls 3 [(0, .ref (ad 0 0)), (1, .int a), (2, .int (nI k))] → zn σ 506 - k < n → (k ≤ zn σ 506) → (a = nI (zct (fun u => k_down σ u) k)) → W p l e (zrm 4) s m ([.ref (ad 0 0)] : List Value).toArray below meth c s.heap [] 0 0 (MQ below (zqR (.int (nI (k_cntD σ)))) ([.ref (ad 0 0)] : List Value).toArray s 0 0 (fun _ => False)) (F0 m 4 ls []) := by
    intro n
    induction n with
    | zero => intro k a ls hl hm hk ha; exact absurd hm (Nat.not_lt_zero _)
    | succ n ih4 =>
      intro k a ls hl hm hk ha
      refine lv_iload_n hx hb dX5_countGrounded_4 rfl (lv_at hl 2 rfl) ?_
      refine lv_aload_n hx hb dX5_countGrounded_5 rfl (lv_at hl 0 rfl) ?_
      refine zg5_6 X hK hW m_257 dX5_countGrounded_6 ?_
      refine lv_icmp_ge (tgt := 29) hx hb dX5_countGrounded_9 (by decide) (fun b1 => ?_) (fun b1 => ?_)
      · refine lv_iload_n hx hb dX5_countGrounded_29 rfl (lv_at hl 1 rfl) ?_
        exact ze_i hx hb hr hlocks (by rw [ha, zge_of hV.2.1 (by decide) hk b1]; rfl) dX5_countGrounded_30
      · have hlt : k < zn σ 506 := zlt_of hV.2.1 (by decide) hk b1
        have hltN := Nat.lt_of_lt_of_le hlt hV.2.1.2
        refine lv_aload_n hx hb dX5_countGrounded_12 rfl (lv_at hl 0 rfl) ?_
        refine lv_iload_n hx hb dX5_countGrounded_13 rfl (lv_at hl 2 rfl) ?_
        refine zcallRV (As := [.int (nI k)]) (rest := []) X hml hK hW (ctX5_isOnGround l D cy ad σ k (by omega) hV) zmX5_isOnGround (by decide) m_416 (zrecv hK (hW 0 0 rfl (by decide)) rfl) ⟨Nat.le_of_ble_eq_true rfl, Nat.le_of_ble_eq_true rfl⟩ ⟨Nat.zero_le _, Nat.zero_le _⟩ rfl hl.1 rfl (Nat.le_of_ble_eq_true rfl) dX5_countGrounded_14 ?_
        refine zb_eq (tgt := 23) hx hb dX5_countGrounded_17 (by decide) (fun b2 => ?_) (fun b2 => ?_)
        · refine lv_iinc (v := nI (k + 1)) (lv' := [(2, .int (nI (k + 1))), (0, .ref (ad 0 0)), (1, .int a)]) hx hb dX5_countGrounded_23 hl (k := 2) rfl (nI_1 k) (by decide) rfl (fun ls hl => ?_)
          refine lv_goto (tgt := 4) hx hb dX5_countGrounded_26 (by decide) ?_
          exact ih4 (k + 1) a _ (lv_sub hl [1, 2, 0] rfl) (by omega) hlt (by rw [ha, zct, if_neg (by simp [b1, Int32.not_le.mp b1, b2]), Nat.add_zero])
        · refine lv_iinc (v := a + 1) (lv' := [(1, .int (a + 1)), (0, .ref (ad 0 0)), (2, .int (nI k))]) hx hb dX5_countGrounded_20 hl (k := 1) rfl rfl (by decide) rfl (fun ls hl => ?_)
          refine lv_iinc (v := nI (k + 1)) (lv' := [(2, .int (nI (k + 1))), (1, .int (a + 1)), (0, .ref (ad 0 0))]) hx hb dX5_countGrounded_23 hl (k := 2) rfl (nI_1 k) (by decide) rfl (fun ls hl => ?_)
          refine lv_goto (tgt := 4) hx hb dX5_countGrounded_26 (by decide) ?_
          exact ih4 (k + 1) (a + 1) _ (lv_sub hl [2, 1, 0] rfl) (by omega) hlt (by rw [ha, zct, if_pos (by simp [b1, Int32.not_le.mp b1, b2]), ← nI_1])
  exact loop4 _ 0 0 _ (lv_sub hl [2, 1, 0] rfl) (Nat.lt_succ_self _) (Nat.zero_le _) rfl
theorem zmX5_sumOfGoodDrops : zmV yX5_sumOfGoodDrops RX5 cX5_sumOfGoodDrops 3 (some .int) 0 := ⟨m_1207, m_1208, m_2, m_1209, rfl, by decide, by decide, by decide +kernel⟩
set_option maxRecDepth 100000 in
set_option maxHeartbeats 4000000 in
theorem ctX5_sumOfGoodDrops (l : Launch) (D : va_G) (cy : Nat → ClassId) (ad : Nat → Nat → Nat) (σ : zS) (hV : zV σ) : Met l yX5_sumOfGoodDrops (zw yX5_sumOfGoodDrops cX5_sumOfGoodDrops 3 (some .int)) (zrm 0) (va_Pc [.ref (ad 0 0)] (zB D cy (zW D cy ad zsL σ))) (zqR (.int (k_sumG σ))) 0 0 (fun _ => False) := by
  refine zmet (by decide) rfl (Nat.le_of_ble_eq_true rfl) rfl (fun p e s m below meth c ls X hml hr hlocks hv hl => ?_)
  obtain ⟨hK, hW⟩ := hv
  obtain ⟨hx, hb, -, -⟩ := id X
  have hl : lv_has ls 3 [(0, .ref (ad 0 0))] := hl
  refine lv_iconst (v := 0) hx hb dX5_sumOfGoodDrops_0 (by decide) ?_
  refine lv_istore_n (lv' := [(1, .int 0), (0, .ref (ad 0 0))]) hx hb dX5_sumOfGoodDrops_1 rfl hl (by decide) rfl (fun ls hl => ?_)
  refine lv_iconst (v := 0) hx hb dX5_sumOfGoodDrops_2 (by decide) ?_
  refine lv_istore_n (lv' := [(2, .int 0), (1, .int 0), (0, .ref (ad 0 0))]) hx hb dX5_sumOfGoodDrops_3 rfl hl (by decide) rfl (fun ls hl => ?_)
  have loop4 : ∀ (n : Nat) (k : Nat) (a : Int32) (ls : Array Slot), lv_has ls 3 [(0, .ref (ad 0 0)), (1, .int a), (2, .int (nI k))] → zn σ 506 - k < n → (k ≤ zn σ 506) → (a = zsmI (fun c => zI σ 115 c) k) → W p l e (zrm 0) s m ([.ref (ad 0 0)] : List Value).toArray below meth c s.heap [] 0 0 (MQ below (zqR (.int (k_sumG σ))) ([.ref (ad 0 0)] : List Value).toArray s 0 0 (fun _ => False)) (F0 m 4 ls []) := by
    intro n
    induction n with
    | zero => intro k a ls hl hm hk ha; exact absurd hm (Nat.not_lt_zero _)
    | succ n ih4 =>
      intro k a ls hl hm hk ha
      refine lv_iload_n hx hb dX5_sumOfGoodDrops_4 rfl (lv_at hl 2 rfl) ?_
      refine lv_aload_n hx hb dX5_sumOfGoodDrops_5 rfl (lv_at hl 0 rfl) ?_
      refine zg5_6 X hK hW m_257 dX5_sumOfGoodDrops_6 ?_
      refine lv_icmp_ge (tgt := 30) hx hb dX5_sumOfGoodDrops_9 (by decide) (fun b1 => ?_) (fun b1 => ?_)
      · refine lv_iload_n hx hb dX5_sumOfGoodDrops_30 rfl (lv_at hl 1 rfl) ?_
        exact ze_i hx hb hr hlocks (by rw [ha, zge_of hV.2.1 (by decide) hk b1]; rfl) dX5_sumOfGoodDrops_31
      · have hlt : k < zn σ 506 := zlt_of hV.2.1 (by decide) hk b1
        have hltN := Nat.lt_of_lt_of_le hlt hV.2.1.2
        refine lv_iload_n hx hb dX5_sumOfGoodDrops_12 rfl (lv_at hl 1 rfl) ?_
        refine lv_aload_n hx hb dX5_sumOfGoodDrops_13 rfl (lv_at hl 0 rfl) ?_
        refine zg5_1 X hK hW m_246 dX5_sumOfGoodDrops_14 ?_
        refine lv_iload_n hx hb dX5_sumOfGoodDrops_17 rfl (lv_at hl 2 rfl) ?_
        refine zrn2 X hK hW (by omega) dX5_sumOfGoodDrops_18 ?_
        refine zg1_15 X hK hW (by omega) m_131 dX5_sumOfGoodDrops_19 ?_
        refine lv_iadd hx hb dX5_sumOfGoodDrops_22 ?_
        refine lv_istore_n (lv' := [(1, .int (a + (zI σ 115 k))), (0, .ref (ad 0 0)), (2, .int (nI k))]) hx hb dX5_sumOfGoodDrops_23 rfl hl (by decide) rfl (fun ls hl => ?_)
        refine lv_iinc (v := nI (k + 1)) (lv' := [(2, .int (nI (k + 1))), (1, .int (a + (zI σ 115 k))), (0, .ref (ad 0 0))]) hx hb dX5_sumOfGoodDrops_24 hl (k := 2) rfl (nI_1 k) (by decide) rfl (fun ls hl => ?_)
        refine lv_goto (tgt := 4) hx hb dX5_sumOfGoodDrops_27 (by decide) ?_
        exact ih4 (k + 1) (a + (zI σ 115 k)) _ (lv_sub hl [2, 1, 0] rfl) (by omega) hlt (by rw [ha, zsmI])
  exact loop4 _ 0 0 _ (lv_sub hl [2, 1, 0] rfl) (Nat.lt_succ_self _) (Nat.zero_le _) rfl
theorem zmX5_isHookFree : zmV yX5_isHookFree RX5 cX5_isHookFree 3 (some .boolean) 1 := ⟨m_380, m_381, m_2, m_382, rfl, by decide, by decide, by decide +kernel⟩
set_option maxRecDepth 100000 in
set_option maxHeartbeats 4000000 in
theorem ctX5_isHookFree (l : Launch) (D : va_G) (cy : Nat → ClassId) (ad : Nat → Nat → Nat) (σ : zS) (h : Int32) (hV : zV σ) : Met l yX5_isHookFree (zw yX5_isHookFree cX5_isHookFree 3 (some .boolean)) (zrm 0) (va_Pc [.ref (ad 0 0), .int h] (zB D cy (zW D cy ad zsL σ))) (zqR (.int (bI (k_free6 σ h)))) 0 0 (fun _ => False) := by
  refine zmet (by decide) rfl (Nat.le_of_ble_eq_true rfl) rfl (fun p e s m below meth c ls X hml hr hlocks hv hl => ?_)
  obtain ⟨hK, hW⟩ := hv
  obtain ⟨hx, hb, -, -⟩ := id X
  have hl : lv_has ls 3 [(0, .ref (ad 0 0)), (1, .int h)] := hl
  refine lv_iconst (v := 0) hx hb dX5_isHookFree_0 (by decide) ?_
  refine lv_istore_n (lv' := [(2, .int 0), (0, .ref (ad 0 0)), (1, .int h)]) hx hb dX5_isHookFree_1 rfl hl (by decide) rfl (fun ls hl => ?_)
  have loop2 : ∀ (n : Nat) (k : Nat) (ls : Array Slot), lv_has ls 3 [(0, .ref (ad 0 0)), (1, .int h), (2, .int (nI k))] → zn σ 506 - k < n → (k ≤ zn σ 506) → (zall (fun c => !decide (zI σ 106 c = h)) k = true) → W p l e (zrm 0) s m ([.ref (ad 0 0), .int h] : List Value).toArray below meth c s.heap [] 0 0 (MQ below (zqR (.int (bI (k_free6 σ h)))) ([.ref (ad 0 0), .int h] : List Value).toArray s 0 0 (fun _ => False)) (F0 m 2 ls []) := by
    intro n
    induction n with
    | zero => intro k ls hl hm hk ha; exact absurd hm (Nat.not_lt_zero _)
    | succ n ih2 =>
      intro k ls hl hm hk ha
      refine lv_iload_n hx hb dX5_isHookFree_2 rfl (lv_at hl 2 rfl) ?_
      refine lv_aload_n hx hb dX5_isHookFree_3 rfl (lv_at hl 0 rfl) ?_
      refine zg5_6 X hK hW m_257 dX5_isHookFree_4 ?_
      refine lv_icmp_ge (tgt := 31) hx hb dX5_isHookFree_7 (by decide) (fun b1 => ?_) (fun b1 => ?_)
      · refine lv_iconst (v := 1) hx hb dX5_isHookFree_31 (by decide) ?_
        exact ze_z hx hb hr hlocks (by rw [k_free6, ← zge_of hV.2.1 (by decide) hk b1, ha]; rfl) dX5_isHookFree_32
      · have hlt : k < zn σ 506 := zlt_of hV.2.1 (by decide) hk b1
        have hltN := Nat.lt_of_lt_of_le hlt hV.2.1.2
        refine lv_aload_n hx hb dX5_isHookFree_10 rfl (lv_at hl 0 rfl) ?_
        refine zg5_1 X hK hW m_246 dX5_isHookFree_11 ?_
        refine lv_iload_n hx hb dX5_isHookFree_14 rfl (lv_at hl 2 rfl) ?_
        refine zrn2 X hK hW (by omega) dX5_isHookFree_15 ?_
        refine zg1_6 X hK hW (by omega) m_110 dX5_isHookFree_16 ?_
        refine lv_iload_n hx hb dX5_isHookFree_19 rfl (lv_at hl 1 rfl) ?_
        refine lv_icmp_ne (tgt := 25) hx hb dX5_isHookFree_20 (by decide) (fun b2 => ?_) (fun b2 => ?_)
        · refine lv_iinc (v := nI (k + 1)) (lv' := [(2, .int (nI (k + 1))), (0, .ref (ad 0 0)), (1, .int h)]) hx hb dX5_isHookFree_25 hl (k := 2) rfl (nI_1 k) (by decide) rfl (fun ls hl => ?_)
          refine lv_goto (tgt := 2) hx hb dX5_isHookFree_28 (by decide) ?_
          exact ih2 (k + 1) _ (lv_sub hl [1, 2, 0] rfl) (by omega) hlt (by rw [zall, ha]; simp [b1, Int32.not_le.mp b1, b2, Ne.symm b2])
        · refine lv_iconst (v := 0) hx hb dX5_isHookFree_23 (by decide) ?_
          exact ze_z hx hb hr hlocks (by rw [k_free6, zall_no hlt (by simp [b1, Int32.not_le.mp b1, b2])]; rfl) dX5_isHookFree_24
  exact loop2 _ 0 _ (lv_sub hl [1, 2, 0] rfl) (Nat.lt_succ_self _) (Nat.zero_le _) rfl
