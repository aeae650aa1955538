theorem zmX8_isIn : zmS yX8_isIn RX8 cX8_isIn 3 (some .boolean) 3 := ⟨m_352, m_10, m_353, rfl, by decide, by decide, by decide +kernel⟩
set_option maxRecDepth 100000 in
set_option maxHeartbeats 4000000 in
theorem ctX8_isIn (l : Launch) (D : va_G) (cy : Nat → ClassId) (x : Int32) (lo : Int32) (hi : Int32) : Met l yX8_isIn (zw yX8_isIn cX8_isIn 3 (some .boolean)) (zrm 0) (va_Pc [.int x, .int lo, .int hi] (zB D cy (fun _ => True))) (zqR (.int (bI (k_in x lo hi)))) 0 0 (fun _ => False) := by
  refine zmet (by decide) rfl (Nat.le_of_ble_eq_true rfl) rfl (fun p e s m below meth c ls X hml hr hlocks hv hl => ?_)
  obtain ⟨hK, hW⟩ := hv
  obtain ⟨hx, hb, -, -⟩ := id X
  have hl : lv_has ls 3 [(0, .int x), (1, .int lo), (2, .int hi)] := hl
  refine lv_iload_n hx hb dX8_isIn_0 rfl (lv_at hl 0 rfl) ?_
  refine lv_iload_n hx hb dX8_isIn_1 rfl (lv_at hl 1 rfl) ?_
  refine lv_icmp_lt (tgt := 14) hx hb dX8_isIn_2 (by decide) (fun h1 => ?_) (fun h1 => ?_)
  · refine lv_iconst (v := 0) hx hb dX8_isIn_14 (by decide) ?_
    exact ze_z hx hb hr hlocks (by simp [bI_t, bI_f, k_in, h1, Int32.not_le.mpr h1]) dX8_isIn_15
  · refine lv_iload_n hx hb dX8_isIn_5 rfl (lv_at hl 0 rfl) ?_
    refine lv_iload_n hx hb dX8_isIn_6 rfl (lv_at hl 2 rfl) ?_
    refine lv_icmp_gt (tgt := 14) hx hb dX8_isIn_7 (by decide) (fun h2 => ?_) (fun h2 => ?_)
    · refine lv_iconst (v := 0) hx hb dX8_isIn_14 (by decide) ?_
      exact ze_z hx hb hr hlocks (by simp [bI_t, bI_f, k_in, h1, Int32.not_lt.mp h1, h2, Int32.not_le.mpr h2]) dX8_isIn_15
    · refine lv_iconst (v := 1) hx hb dX8_isIn_10 (by decide) ?_
      refine lv_goto (tgt := 15) hx hb dX8_isIn_11 (by decide) ?_
      exact ze_z hx hb hr hlocks (by simp [bI_t, bI_f, k_in, h1, Int32.not_lt.mp h1, h2, Int32.not_lt.mp h2]) dX8_isIn_15
theorem zmX8_areLicences : zmS yX8_areLicences RX8 cX8_areLicences 2 (some .boolean) 2 := ⟨m_349, m_10, m_350, rfl, by decide, by decide, by decide +kernel⟩
set_option maxRecDepth 100000 in
set_option maxHeartbeats 4000000 in
theorem ctX8_areLicences (l : Launch) (D : va_G) (cy : Nat → ClassId) (x : Int32) (y : Int32) : Met l yX8_areLicences (zw yX8_areLicences cX8_areLicences 2 (some .boolean)) (zrm 1) (va_Pc [.int x, .int y] (zB D cy (fun _ => True))) (zqR (.int (bI (k_lic x y)))) 0 0 (fun _ => False) := by
  refine zmet (by decide) rfl (Nat.le_of_ble_eq_true rfl) rfl (fun p e s m below meth c ls X hml hr hlocks hv hl => ?_)
  obtain ⟨hK, hW⟩ := hv
  obtain ⟨hx, hb, -, -⟩ := id X
  have hl : lv_has ls 2 [(0, .int x), (1, .int y)] := hl
  refine lv_iload_n hx hb dX8_areLicences_0 rfl (lv_at hl 0 rfl) ?_
  refine lv_iconst (v := 0) hx hb dX8_areLicences_1 (by decide) ?_
  refine lv_bipush (v := 63) hx hb dX8_areLicences_2 (by decide) ?_
  refine zcallRS (As := [.int x, .int 0, .int 63]) (rest := []) X hml hK trivial (ctX8_isIn l D cy x 0 63) zmX8_isIn (by decide) m_351 ⟨Nat.le_of_ble_eq_true rfl, Nat.le_of_ble_eq_true rfl⟩ ⟨Nat.zero_le _, Nat.zero_le _⟩ rfl hl.1 rfl (by decide) dX8_areLicences_4 ?_
  refine zb_eq (tgt := 25) hx hb dX8_areLicences_7 (by decide) (fun h1 => ?_) (fun h1 => ?_)
  · refine lv_iconst (v := 0) hx hb dX8_areLicences_25 (by decide) ?_
    exact ze_z hx hb hr hlocks (by simp [bI_t, bI_f, k_lic, h1]) dX8_areLicences_26
  · refine lv_iload_n hx hb dX8_areLicences_10 rfl (lv_at hl 1 rfl) ?_
    refine lv_iconst (v := 0) hx hb dX8_areLicences_11 (by decide) ?_
    refine lv_sipush (v := 9999) hx hb dX8_areLicences_12 (by decide) ?_
    refine zcallRS (As := [.int y, .int 0, .int 9999]) (rest := []) X hml hK trivial (ctX8_isIn l D cy y 0 9999) zmX8_isIn (by decide) m_351 ⟨Nat.le_of_ble_eq_true rfl, Nat.le_of_ble_eq_true rfl⟩ ⟨Nat.zero_le _, Nat.zero_le _⟩ rfl hl.1 rfl (by decide) dX8_areLicences_15 ?_
    refine zb_eq (tgt := 25) hx hb dX8_areLicences_18 (by decide) (fun h2 => ?_) (fun h2 => ?_)
    · refine lv_iconst (v := 0) hx hb dX8_areLicences_25 (by decide) ?_
      exact ze_z hx hb hr hlocks (by simp [bI_t, bI_f, k_lic, h1, h2]) dX8_areLicences_26
    · refine lv_iconst (v := 1) hx hb dX8_areLicences_21 (by decide) ?_
      refine lv_goto (tgt := 26) hx hb dX8_areLicences_22 (by decide) ?_
      exact ze_z hx hb hr hlocks (by simp [bI_t, bI_f, k_lic, h1, h2]) dX8_areLicences_26
theorem zmX5_hasRigger : zmV yX5_hasRigger RX5 cX5_hasRigger 2 (some .boolean) 1 := ⟨m_364, m_365, m_2, m_366, rfl, by decide, by decide, by decide +kernel⟩
set_option maxRecDepth 100000 in
set_option maxHeartbeats 4000000 in
theorem ctX5_hasRigger (l : Launch) (D : va_G) (cy : Nat → ClassId) (ad : Nat → Nat → Nat) (σ : zS) (x : Int32) : Met l yX5_hasRigger (zw yX5_hasRigger cX5_hasRigger 2 (some .boolean)) (zrm 0) (va_Pc [.ref (ad 0 0), .int x] (zB D cy (zW D cy ad zsL σ))) (zqR (.int (bI (k_has σ 505 x)))) 0 0 (fun _ => False) := by
  refine zmet (by decide) rfl (Nat.le_of_ble_eq_true rfl) rfl (fun p e s m below meth c ls X hml hr hlocks hv hl => ?_)
  obtain ⟨hK, hW⟩ := hv
  obtain ⟨hx, hb, -, -⟩ := id X
  have hl : lv_has ls 2 [(0, .ref (ad 0 0)), (1, .int x)] := hl
  refine lv_iload_n hx hb dX5_hasRigger_0 rfl (lv_at hl 1 rfl) ?_
  refine lv_if_lt (tgt := 16) hx hb dX5_hasRigger_1 (by decide) (fun h1 => ?_) (fun h1 => ?_)
  · refine lv_iconst (v := 0) hx hb dX5_hasRigger_16 (by decide) ?_
    exact ze_z hx hb hr hlocks (by simp [bI_t, bI_f, k_has, h1, Int32.not_le.mpr h1]) dX5_hasRigger_17
  · refine lv_iload_n hx hb dX5_hasRigger_4 rfl (lv_at hl 1 rfl) ?_
    refine lv_aload_n hx hb dX5_hasRigger_5 rfl (lv_at hl 0 rfl) ?_
    refine zg5_5 X hK hW m_252 dX5_hasRigger_6 ?_
    refine lv_icmp_ge (tgt := 16) hx hb dX5_hasRigger_9 (by decide) (fun h2 => ?_) (fun h2 => ?_)
    · refine lv_iconst (v := 0) hx hb dX5_hasRigger_16 (by decide) ?_
      exact ze_z hx hb hr hlocks (by simp [bI_t, bI_f, k_has, h1, Int32.not_lt.mp h1, h2, Int32.not_lt.mpr h2]) dX5_hasRigger_17
    · refine lv_iconst (v := 1) hx hb dX5_hasRigger_12 (by decide) ?_
      refine lv_goto (tgt := 17) hx hb dX5_hasRigger_13 (by decide) ?_
      exact ze_z hx hb hr hlocks (by simp [bI_t, bI_f, k_has, h1, Int32.not_lt.mp h1, h2, Int32.not_le.mp h2]) dX5_hasRigger_17
theorem zmX5_hasCanopy : zmV yX5_hasCanopy RX5 cX5_hasCanopy 2 (some .boolean) 1 := ⟨m_379, m_380, m_2, m_381, rfl, by decide, by decide, by decide +kernel⟩
set_option maxRecDepth 100000 in
set_option maxHeartbeats 4000000 in
theorem ctX5_hasCanopy (l : Launch) (D : va_G) (cy : Nat → ClassId) (ad : Nat → Nat → Nat) (σ : zS) (x : Int32) : Met l yX5_hasCanopy (zw yX5_hasCanopy cX5_hasCanopy 2 (some .boolean)) (zrm 0) (va_Pc [.ref (ad 0 0), .int x] (zB D cy (zW D cy ad zsL σ))) (zqR (.int (bI (k_has σ 506 x)))) 0 0 (fun _ => False) := by
  refine zmet (by decide) rfl (Nat.le_of_ble_eq_true rfl) rfl (fun p e s m below meth c ls X hml hr hlocks hv hl => ?_)
  obtain ⟨hK, hW⟩ := hv
  obtain ⟨hx, hb, -, -⟩ := id X
  have hl : lv_has ls 2 [(0, .ref (ad 0 0)), (1, .int x)] := hl
  refine lv_iload_n hx hb dX5_hasCanopy_0 rfl (lv_at hl 1 rfl) ?_
  refine lv_if_lt (tgt := 16) hx hb dX5_hasCanopy_1 (by decide) (fun h1 => ?_) (fun h1 => ?_)
  · refine lv_iconst (v := 0) hx hb dX5_hasCanopy_16 (by decide) ?_
    exact ze_z hx hb hr hlocks (by simp [bI_t, bI_f, k_has, h1, Int32.not_le.mpr h1]) dX5_hasCanopy_17
  · refine lv_iload_n hx hb dX5_hasCanopy_4 rfl (lv_at hl 1 rfl) ?_
    refine lv_aload_n hx hb dX5_hasCanopy_5 rfl (lv_at hl 0 rfl) ?_
    refine zg5_6 X hK hW m_254 dX5_hasCanopy_6 ?_
    refine lv_icmp_ge (tgt := 16) hx hb dX5_hasCanopy_9 (by decide) (fun h2 => ?_) (fun h2 => ?_)
    · refine lv_iconst (v := 0) hx hb dX5_hasCanopy_16 (by decide) ?_
      exact ze_z hx hb hr hlocks (by simp [bI_t, bI_f, k_has, h1, Int32.not_lt.mp h1, h2, Int32.not_lt.mpr h2]) dX5_hasCanopy_17
    · refine lv_iconst (v := 1) hx hb dX5_hasCanopy_12 (by decide) ?_
      refine lv_goto (tgt := 17) hx hb dX5_hasCanopy_13 (by decide) ?_
      exact ze_z hx hb hr hlocks (by simp [bI_t, bI_f, k_has, h1, Int32.not_lt.mp h1, h2, Int32.not_le.mp h2]) dX5_hasCanopy_17
theorem zmX5_hasLoad : zmV yX5_hasLoad RX5 cX5_hasLoad 2 (some .boolean) 1 := ⟨m_402, m_403, m_2, m_404, rfl, by decide, by decide, by decide +kernel⟩
set_option maxRecDepth 100000 in
set_option maxHeartbeats 4000000 in
theorem ctX5_hasLoad (l : Launch) (D : va_G) (cy : Nat → ClassId) (ad : Nat → Nat → Nat) (σ : zS) (x : Int32) : Met l yX5_hasLoad (zw yX5_hasLoad cX5_hasLoad 2 (some .boolean)) (zrm 0) (va_Pc [.ref (ad 0 0), .int x] (zB D cy (zW D cy ad zsL σ))) (zqR (.int (bI (k_has σ 507 x)))) 0 0 (fun _ => False) := by
  refine zmet (by decide) rfl (Nat.le_of_ble_eq_true rfl) rfl (fun p e s m below meth c ls X hml hr hlocks hv hl => ?_)
  obtain ⟨hK, hW⟩ := hv
  obtain ⟨hx, hb, -, -⟩ := id X
  have hl : lv_has ls 2 [(0, .ref (ad 0 0)), (1, .int x)] := hl
  refine lv_iload_n hx hb dX5_hasLoad_0 rfl (lv_at hl 1 rfl) ?_
  refine lv_if_lt (tgt := 16) hx hb dX5_hasLoad_1 (by decide) (fun h1 => ?_) (fun h1 => ?_)
  · refine lv_iconst (v := 0) hx hb dX5_hasLoad_16 (by decide) ?_
    exact ze_z hx hb hr hlocks (by simp [bI_t, bI_f, k_has, h1, Int32.not_le.mpr h1]) dX5_hasLoad_17
  · refine lv_iload_n hx hb dX5_hasLoad_4 rfl (lv_at hl 1 rfl) ?_
    refine lv_aload_n hx hb dX5_hasLoad_5 rfl (lv_at hl 0 rfl) ?_
    refine zg5_7 X hK hW m_257 dX5_hasLoad_6 ?_
    refine lv_icmp_ge (tgt := 16) hx hb dX5_hasLoad_9 (by decide) (fun h2 => ?_) (fun h2 => ?_)
    · refine lv_iconst (v := 0) hx hb dX5_hasLoad_16 (by decide) ?_
      exact ze_z hx hb hr hlocks (by simp [bI_t, bI_f, k_has, h1, Int32.not_lt.mp h1, h2, Int32.not_lt.mpr h2]) dX5_hasLoad_17
    · refine lv_iconst (v := 1) hx hb dX5_hasLoad_12 (by decide) ?_
      refine lv_goto (tgt := 17) hx hb dX5_hasLoad_13 (by decide) ?_
      exact ze_z hx hb hr hlocks (by simp [bI_t, bI_f, k_has, h1, Int32.not_lt.mp h1, h2, Int32.not_le.mp h2]) dX5_hasLoad_17
theorem zmX5_hasFinding : zmV yX5_hasFinding RX5 cX5_hasFinding 2 (some .boolean) 1 := ⟨m_454, m_455, m_2, m_456, rfl, by decide, by decide, by decide +kernel⟩
set_option maxRecDepth 100000 in
set_option maxHeartbeats 4000000 in
theorem ctX5_hasFinding (l : Launch) (D : va_G) (cy : Nat → ClassId) (ad : Nat → Nat → Nat) (σ : zS) (x : Int32) : Met l yX5_hasFinding (zw yX5_hasFinding cX5_hasFinding 2 (some .boolean)) (zrm 0) (va_Pc [.ref (ad 0 0), .int x] (zB D cy (zW D cy ad zsL σ))) (zqR (.int (bI (k_has σ 508 x)))) 0 0 (fun _ => False) := by
  refine zmet (by decide) rfl (Nat.le_of_ble_eq_true rfl) rfl (fun p e s m below meth c ls X hml hr hlocks hv hl => ?_)
  obtain ⟨hK, hW⟩ := hv
  obtain ⟨hx, hb, -, -⟩ := id X
  have hl : lv_has ls 2 [(0, .ref (ad 0 0)), (1, .int x)] := hl
  refine lv_iload_n hx hb dX5_hasFinding_0 rfl (lv_at hl 1 rfl) ?_
  refine lv_if_lt (tgt := 16) hx hb dX5_hasFinding_1 (by decide) (fun h1 => ?_) (fun h1 => ?_)
  · refine lv_iconst (v := 0) hx hb dX5_hasFinding_16 (by decide) ?_
    exact ze_z hx hb hr hlocks (by simp [bI_t, bI_f, k_has, h1, Int32.not_le.mpr h1]) dX5_hasFinding_17
  · refine lv_iload_n hx hb dX5_hasFinding_4 rfl (lv_at hl 1 rfl) ?_
    refine lv_aload_n hx hb dX5_hasFinding_5 rfl (lv_at hl 0 rfl) ?_
    refine zg5_8 X hK hW m_259 dX5_hasFinding_6 ?_
    refine lv_icmp_ge (tgt := 16) hx hb dX5_hasFinding_9 (by decide) (fun h2 => ?_) (fun h2 => ?_)
    · refine lv_iconst (v := 0) hx hb dX5_hasFinding_16 (by decide) ?_
      exact ze_z hx hb hr hlocks (by simp [bI_t, bI_f, k_has, h1, Int32.not_lt.mp h1, h2, Int32.not_lt.mpr h2]) dX5_hasFinding_17
    · refine lv_iconst (v := 1) hx hb dX5_hasFinding_12 (by decide) ?_
      refine lv_goto (tgt := 17) hx hb dX5_hasFinding_13 (by decide) ?_
      exact ze_z hx hb hr hlocks (by simp [bI_t, bI_f, k_has, h1, Int32.not_lt.mp h1, h2, Int32.not_le.mp h2]) dX5_hasFinding_17
theorem zmX7_may : zmV yX7_may RX7 cX7_may 3 (some .boolean) 2 := ⟨m_392, m_393, m_4, m_394, rfl, by decide, by decide, by decide +kernel⟩
set_option maxRecDepth 100000 in
set_option maxHeartbeats 4000000 in
theorem ctX7_may (l : Launch) (D : va_G) (cy : Nat → ClassId) (ad : Nat → Nat → Nat) (σ : zS) (r : Nat) (hr : r < 8) (w : Int32) (d : Int32) : Met l yX7_may (zw yX7_may cX7_may 3 (some .boolean)) (zrm 0) (va_Pc [.ref (ad 10 r), .int w, .int d] (zB D cy (zW D cy ad zsL σ))) (zqR (.int (bI (k_may σ r w d)))) 0 0 (fun _ => False) := by
  refine zmet (by decide) rfl (Nat.le_of_ble_eq_true rfl) rfl (fun p e s m below meth c ls X hml hr hlocks hv hl => ?_)
  obtain ⟨hK, hW⟩ := hv
  obtain ⟨hx, hb, -, -⟩ := id X
  have hl : lv_has ls 3 [(0, .ref (ad 10 r)), (1, .int w), (2, .int d)] := hl
  refine lv_iload_n hx hb dX7_may_0 rfl (lv_at hl 2 rfl) ?_
  refine lv_aload_n hx hb dX7_may_1 rfl (lv_at hl 0 rfl) ?_
  refine zg6_1 X hK hW hr m_80 dX7_may_2 ?_
  refine lv_icmp_gt (tgt := 24) hx hb dX7_may_5 (by decide) (fun h1 => ?_) (fun h1 => ?_)
  · refine lv_iconst (v := 0) hx hb dX7_may_24 (by decide) ?_
    exact ze_z hx hb hr hlocks (by simp [bI_t, bI_f, k_may, h1, Int32.not_le.mpr h1]) dX7_may_25
  · refine lv_aload_n hx hb dX7_may_8 rfl (lv_at hl 0 rfl) ?_
    refine zg6_0 X hK hW hr m_78 dX7_may_9 ?_
    refine lv_iload_n hx hb dX7_may_12 rfl (lv_at hl 1 rfl) ?_
    refine lv_ishr hx hb dX7_may_13 ?_
    refine lv_iconst (v := 1) hx hb dX7_may_14 (by decide) ?_
    refine lv_iand hx hb dX7_may_15 ?_
    refine lv_iconst (v := 1) hx hb dX7_may_16 (by decide) ?_
    refine lv_icmp_ne (tgt := 24) hx hb dX7_may_17 (by decide) (fun h2 => ?_) (fun h2 => ?_)
    · refine lv_iconst (v := 0) hx hb dX7_may_24 (by decide) ?_
      exact ze_z hx hb hr hlocks (by simp [bI_t, bI_f, k_may, h1, Int32.not_lt.mp h1, h2, Ne.symm h2]) dX7_may_25
    · refine lv_iconst (v := 1) hx hb dX7_may_20 (by decide) ?_
      refine lv_goto (tgt := 25) hx hb dX7_may_21 (by decide) ?_
      exact ze_z hx hb hr hlocks (by simp [bI_t, bI_f, k_may, h1, Int32.not_lt.mp h1, h2]) dX7_may_25
theorem zmX0_has : zmV yX0_has RX0 cX0_has 2 (some .boolean) 1 := ⟨m_418, m_419, m_3, m_420, rfl, by decide, by decide, by decide +kernel⟩
set_option maxRecDepth 100000 in
set_option maxHeartbeats 4000000 in
theorem ctX0_has (l : Launch) (D : va_G) (cy : Nat → ClassId) (ad : Nat → Nat → Nat) (σ : zS) (x : Int32) : Met l yX0_has (zw yX0_has cX0_has 2 (some .boolean)) (zrm 0) (va_Pc [.ref (ad 5 0), .int x] (zB D cy (zW D cy ad zsL σ))) (zqR (.int (bI (k_has σ 0 x)))) 0 0 (fun _ => False) := by
  refine zmet (by decide) rfl (Nat.le_of_ble_eq_true rfl) rfl (fun p e s m below meth c ls X hml hr hlocks hv hl => ?_)
  obtain ⟨hK, hW⟩ := hv
  obtain ⟨hx, hb, -, -⟩ := id X
  have hl : lv_has ls 2 [(0, .ref (ad 5 0)), (1, .int x)] := hl
  refine lv_iload_n hx hb dX0_has_0 rfl (lv_at hl 1 rfl) ?_
  refine lv_if_lt (tgt := 16) hx hb dX0_has_1 (by decide) (fun h1 => ?_) (fun h1 => ?_)
  · refine lv_iconst (v := 0) hx hb dX0_has_16 (by decide) ?_
    exact ze_z hx hb hr hlocks (by simp [bI_t, bI_f, k_has, h1, Int32.not_le.mpr h1]) dX0_has_17
  · refine lv_iload_n hx hb dX0_has_4 rfl (lv_at hl 1 rfl) ?_
    refine lv_aload_n hx hb dX0_has_5 rfl (lv_at hl 0 rfl) ?_
    refine zg0_0 X hK hW m_53 dX0_has_6 ?_
    refine lv_icmp_ge (tgt := 16) hx hb dX0_has_9 (by decide) (fun h2 => ?_) (fun h2 => ?_)
    · refine lv_iconst (v := 0) hx hb dX0_has_16 (by decide) ?_
      exact ze_z hx hb hr hlocks (by simp [bI_t, bI_f, k_has, h1, Int32.not_lt.mp h1, h2, Int32.not_lt.mpr h2]) dX0_has_17
    · refine lv_iconst (v := 1) hx hb dX0_has_12 (by decide) ?_
      refine lv_goto (tgt := 17) hx hb dX0_has_13 (by decide) ?_
      exact ze_z hx hb hr hlocks (by simp [bI_t, bI_f, k_has, h1, Int32.not_lt.mp h1, h2, Int32.not_le.mp h2]) dX0_has_17
theorem zmX0_handsOf : zmV yX0_handsOf RX0 cX0_handsOf 5 (some .long) 1 := ⟨m_434, m_435, m_3, m_436, rfl, by decide, by decide, by decide +kernel⟩
set_option maxRecDepth 100000 in
set_option maxHeartbeats 4000000 in
theorem ctX0_handsOf (l : Launch) (D : va_G) (cy : Nat → ClassId) (ad : Nat → Nat → Nat) (σ : zS) (x : Int32) (hq : vp_in x 86) : Met l yX0_handsOf (zw yX0_handsOf cX0_handsOf 5 (some .long)) (zrm 0) (va_Pc [.ref (ad 5 0), .int x] (zB D cy (zW D cy ad zsL σ))) (zqR (.long (k_hands σ x.toNatClampNeg))) 0 0 (fun _ => False) := by
  refine zmet (by decide) rfl (Nat.le_of_ble_eq_true rfl) rfl (fun p e s m below meth c ls X hml hr hlocks hv hl => ?_)
  obtain ⟨hK, hW⟩ := hv
  obtain ⟨hx, hb, -, -⟩ := id X
  have hl : lv_has ls 5 [(0, .ref (ad 5 0)), (1, .int x)] := hl
  obtain ⟨q, hq86, hqe⟩ := vp_in_of hq (by decide)
  subst hqe
  refine lv_lconst (v := 0) hx hb dX0_handsOf_0 rfl ?_
  refine lv_lstore_n (lv' := [(2, .long 0), (0, .ref (ad 5 0)), (1, .int (nI q))]) hx hb dX0_handsOf_1 rfl hl (by decide) rfl (fun ls hl => ?_)
  refine lv_iconst (v := 0) hx hb dX0_handsOf_2 (by decide) ?_
  refine lv_istore (lv' := [(4, .int 0), (2, .long 0), (0, .ref (ad 5 0)), (1, .int (nI q))]) hx hb dX0_handsOf_3 hl (by decide) rfl (fun ls hl => ?_)
  have loop5 : ∀ (n : Nat) (k : Nat) (a : Int64) (ls : Array Slot), lv_has ls 5 [(0, .ref (ad 5 0)), (1, .int (nI q)), (2, .long a), (4, .int (nI k))] → 5 - k < n → (k ≤ 5) → (a = zorL (fun i => 1 <<< ((8 * nI i + zA σ 9 0 (q * 5 + i)).toInt64 &&& 63)) k) → W p l e (zrm 0) s m ([.ref (ad 5 0), .int (nI q)] : List Value).toArray below meth c s.heap [] 0 0 (MQ below (zqR (.long (k_hands σ (nI q).toNatClampNeg))) ([.ref (ad 5 0), .int (nI q)] : List Value).toArray s 0 0 (fun _ => False)) (F0 m 5 ls []) := by
    intro n
    induction n with
    | zero => intro k a ls hl hm hk ha; exact absurd hm (Nat.not_lt_zero _)
    | succ n ih5 =>
      intro k a ls hl hm hk ha
      refine lv_iload hx hb dX0_handsOf_5 (lv_at hl 3 rfl) ?_
      refine lv_iconst (v := 5) hx hb dX0_handsOf_7 (by decide) ?_
      refine lv_icmp_ge (tgt := 39) hx hb dX0_handsOf_8 (by decide) (fun h1 => ?_) (fun h1 => ?_)
      · refine lv_lload_n hx hb dX0_handsOf_39 rfl (lv_at hl 2 rfl) ?_
        exact ze_l hx hb hr hlocks (by rw [ha, zge_c (N := 5) (by decide) hk h1, nI_clamp (by omega)]; rfl) dX0_handsOf_40
      · have hlt : k < 5 := zlt_c (by decide) hk h1
        refine lv_lload_n hx hb dX0_handsOf_11 rfl (lv_at hl 2 rfl) ?_
        refine lv_lconst (v := 1) hx hb dX0_handsOf_12 rfl ?_
        refine lv_bipush (v := 8) hx hb dX0_handsOf_13 (by decide) ?_
        refine lv_iload hx hb dX0_handsOf_15 (lv_at hl 3 rfl) ?_
        refine lv_imul hx hb dX0_handsOf_17 ?_
        refine lv_aload_n hx hb dX0_handsOf_18 rfl (lv_at hl 0 rfl) ?_
        refine zg0_4 X hK hW m_60 dX0_handsOf_19 ?_
        refine lv_iload_n hx hb dX0_handsOf_22 rfl (lv_at hl 1 rfl) ?_
        refine lv_iconst (v := 5) hx hb dX0_handsOf_23 (by decide) ?_
        refine lv_imul hx hb dX0_handsOf_24 ?_
        refine lv_iload hx hb dX0_handsOf_25 (lv_at hl 3 rfl) ?_
        refine lv_iadd hx hb dX0_handsOf_27 ?_
        rw [zmul5]
        refine zan9 X hK hW (by omega) dX0_handsOf_28 ?_
        refine lv_iadd hx hb dX0_handsOf_29 ?_
        refine lv_lshl hx hb dX0_handsOf_30 rfl ?_
        refine lv_lor hx hb dX0_handsOf_31 ?_
        refine lv_lstore_n (lv' := [(2, .long (a ||| (1 <<< (((8 * (nI k)) + (zA σ 9 0 (q * 5 + k))).toInt64 &&& 63)))), (0, .ref (ad 5 0)), (1, .int (nI q)), (4, .int (nI k))]) hx hb dX0_handsOf_32 rfl hl (by decide) rfl (fun ls hl => ?_)
        refine lv_iinc (v := nI (k + 1)) (lv' := [(4, .int (nI (k + 1))), (2, .long (a ||| (1 <<< (((8 * (nI k)) + (zA σ 9 0 (q * 5 + k))).toInt64 &&& 63)))), (0, .ref (ad 5 0)), (1, .int (nI q))]) hx hb dX0_handsOf_33 hl (k := 3) rfl (nI_1 k) (by decide) rfl (fun ls hl => ?_)
        refine lv_goto (tgt := 5) hx hb dX0_handsOf_36 (by decide) ?_
        exact ih5 (k + 1) (a ||| (1 <<< (((8 * (nI k)) + (zA σ 9 0 (q * 5 + k))).toInt64 &&& 63))) _ (lv_sub hl [2, 3, 1, 0] rfl) (by omega) hlt (by rw [ha, zorL])
  exact loop5 _ 0 0 _ (lv_sub hl [2, 3, 1, 0] rfl) (Nat.lt_succ_self _) (Nat.zero_le _) rfl
