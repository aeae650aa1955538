theorem ctX5_isFitToJump_x (l : Launch) (D : va_G) (cy : Nat → ClassId) (ad : Nat → Nat → Nat) (σ : zS) (x : Int32) (hx : vp_in x 24) (hV : zV σ) : Met l yX5_isFitToJump (zw yX5_isFitToJump cX5_isFitToJump 2 (some .boolean)) (zrm 4) (va_Pc [.ref (ad 0 0), .int x] (zB D cy (zW D cy ad zsL σ))) (zqR (.int (bI (k_fit σ x.toNatClampNeg)))) 0 0 (fun _ => False) := by
  obtain ⟨j, hj, rfl⟩ := vp_in_of hx (by decide)
  rw [nI_clamp (by omega)]
  exact ctX5_isFitToJump l D cy ad σ j hj hV
theorem ctX5_isOnGround_x (l : Launch) (D : va_G) (cy : Nat → ClassId) (ad : Nat → Nat → Nat) (σ : zS) (x : Int32) (hx : vp_in x 24) (hV : zV σ) : Met l yX5_isOnGround (zw yX5_isOnGround cX5_isOnGround 3 (some .boolean)) (zrm 3) (va_Pc [.ref (ad 0 0), .int x] (zB D cy (zW D cy ad zsL σ))) (zqR (.int (bI (k_down σ x.toNatClampNeg)))) 0 0 (fun _ => False) := by
  obtain ⟨j, hj, rfl⟩ := vp_in_of hx (by decide)
  rw [nI_clamp (by omega)]
  exact ctX5_isOnGround l D cy ad σ j hj hV
theorem ctX5_countSharers_x (l : Launch) (D : va_G) (cy : Nat → ClassId) (ad : Nat → Nat → Nat) (σ : zS) (x : Int32) (hx : vp_in x 24) (hV : zV σ) : Met l yX5_countSharers (zw yX5_countSharers cX5_countSharers 4 (some .int)) (zrm 0) (va_Pc [.ref (ad 0 0), .int x] (zB D cy (zW D cy ad zsL σ))) (zqR (.int (nI (k_shar σ x.toNatClampNeg)))) 0 0 (fun _ => False) := by
  obtain ⟨j, hj, rfl⟩ := vp_in_of hx (by decide)
  rw [nI_clamp (by omega)]
  exact ctX5_countSharers l D cy ad σ j hj hV
theorem ctX5_countGroundedBy_x (l : Launch) (D : va_G) (cy : Nat → ClassId) (ad : Nat → Nat → Nat) (σ : zS) (x : Int32) (hx : vp_in x 12) (hV : zV σ) (hf : x.toNatClampNeg < zn σ 508) : Met l yX5_countGroundedBy (zw yX5_countGroundedBy cX5_countGroundedBy 4 (some .int)) (zrm 3) (va_Pc [.ref (ad 0 0), .int x] (zB D cy (zW D cy ad zsL σ))) (zqR (.int (nI (k_cntG σ x.toNatClampNeg)))) 0 0 (fun _ => False) := by
  obtain ⟨j, hj, rfl⟩ := vp_in_of hx (by decide)
  rw [nI_clamp (by omega)]
  exact ctX5_countGroundedBy l D cy ad σ j hj hV (by rw [nI_clamp (by omega)] at hf; exact hf)
def r_X8_ofAddRigger (σ : zS) (x : Int32) (y : Int32) : Nat := if k_lic x y = true then if 8 ≤ (zI σ 505 0) then 4 else 0 else 2
theorem r_X8_ofAddRigger_lt (σ : zS) (x : Int32) (y : Int32) : r_X8_ofAddRigger σ x y < 5 := by
  unfold r_X8_ofAddRigger
  (repeat' split) <;> first | decide
theorem zmX8_ofAddRigger : zmS yX8_ofAddRigger RX8 cX8_ofAddRigger 3 (some (.object "Silkloft$Refusal")) 3 := ⟨m_341, m_9, m_342, rfl, by decide, by decide, by decide +kernel⟩
set_option maxRecDepth 100000 in
set_option maxHeartbeats 4000000 in
theorem ctX8_ofAddRigger (l : Launch) (D : va_G) (cy : Nat → ClassId) (rf : Nat → Nat) (ad : Nat → Nat → Nat) (σ : zS) (x : Int32) (y : Int32) : Met l yX8_ofAddRigger (zw yX8_ofAddRigger cX8_ofAddRigger 3 (some (.object "Silkloft$Refusal"))) (zrm 2) (va_Pc [.ref (ad 0 0), .int x, .int y] (zBE D cy rf (zW D cy ad zsL σ))) (zqR (.ref (rf (r_X8_ofAddRigger σ x y)))) 0 0 (fun _ => False) := by
  refine zmet (by decide) rfl (Nat.le_of_ble_eq_true rfl) rfl (fun p e s m below meth c ls X hml hr hlocks hv hl => ?_)
  obtain ⟨hK, hE, hW⟩ := hv
  obtain ⟨hx, hb, -, -⟩ := id X
  have hl : lv_has ls 3 [(0, .ref (ad 0 0)), (1, .int x), (2, .int y)] := hl
  refine lv_iload_n hx hb dX8_ofAddRigger_0 rfl (lv_at hl 1 rfl) ?_
  refine lv_iload_n hx hb dX8_ofAddRigger_1 rfl (lv_at hl 2 rfl) ?_
  refine zcallRS (As := [.int x, .int y]) (rest := []) X hml hK trivial (ctX8_areLicences l D cy x y) zmX8_areLicences (by decide) m_343 ⟨Nat.le_of_ble_eq_true rfl, Nat.le_of_ble_eq_true rfl⟩ ⟨Nat.zero_le _, Nat.zero_le _⟩ rfl hl.1 rfl (Nat.le_of_ble_eq_true rfl) dX8_ofAddRigger_2 ?_
  refine zb_ne (tgt := 12) hx hb dX8_ofAddRigger_5 (by decide) (fun b1 => ?_) (fun b1 => ?_)
  · refine lv_aload_n hx hb dX8_ofAddRigger_12 rfl (lv_at hl 0 rfl) ?_
    refine zg5_5 X hK hW m_256 dX8_ofAddRigger_13 ?_
    refine lv_bipush (v := 8) hx hb dX8_ofAddRigger_16 (by decide) ?_
    refine lv_icmp_ge (tgt := 27) hx hb dX8_ofAddRigger_18 (by decide) (fun b2 => ?_) (fun b2 => ?_)
    · refine zgetE X hE (va_S.rf) 4 (by decide) rfl m_353 dX8_ofAddRigger_27 ?_
      exact ze_a hx hb hr hlocks (by rw [r_X8_ofAddRigger, if_pos b1, if_pos b2]) dX8_ofAddRigger_30
    · refine zgetE X hE (va_S.rf) 0 (by decide) rfl m_351 dX8_ofAddRigger_21 ?_
      refine lv_goto (tgt := 30) hx hb dX8_ofAddRigger_24 (by decide) ?_
      exact ze_a hx hb hr hlocks (by rw [r_X8_ofAddRigger, if_pos b1, if_neg b2]) dX8_ofAddRigger_30
  · refine zgetE X hE (va_S.rf) 2 (by decide) rfl m_349 dX8_ofAddRigger_8 ?_
    exact ze_a hx hb hr hlocks (by rw [r_X8_ofAddRigger, if_neg (by simp [b1])]) dX8_ofAddRigger_11
def r_X8_ofSetLicences (σ : zS) (x : Int32) (y : Int32) (z : Int32) : Nat := if k_has σ 505 x = true then if k_lic y z = false then 2 else 0 else 1
theorem r_X8_ofSetLicences_lt (σ : zS) (x : Int32) (y : Int32) (z : Int32) : r_X8_ofSetLicences σ x y z < 5 := by
  unfold r_X8_ofSetLicences
  (repeat' split) <;> first | decide
theorem zmX8_ofSetLicences : zmS yX8_ofSetLicences RX8 cX8_ofSetLicences 4 (some (.object "Silkloft$Refusal")) 4 := ⟨m_356, m_9, m_357, rfl, by decide, by decide, by decide +kernel⟩
set_option maxRecDepth 100000 in
set_option maxHeartbeats 4000000 in
theorem ctX8_ofSetLicences (l : Launch) (D : va_G) (cy : Nat → ClassId) (rf : Nat → Nat) (ad : Nat → Nat → Nat) (σ : zS) (x : Int32) (y : Int32) (z : Int32) : Met l yX8_ofSetLicences (zw yX8_ofSetLicences cX8_ofSetLicences 4 (some (.object "Silkloft$Refusal"))) (zrm 2) (va_Pc [.ref (ad 0 0), .int x, .int y, .int z] (zBE D cy rf (zW D cy ad zsL σ))) (zqR (.ref (rf (r_X8_ofSetLicences σ x y z)))) 0 0 (fun _ => False) := by
  refine zmet (by decide) rfl (Nat.le_of_ble_eq_true rfl) rfl (fun p e s m below meth c ls X hml hr hlocks hv hl => ?_)
  obtain ⟨hK, hE, hW⟩ := hv
  obtain ⟨hx, hb, -, -⟩ := id X
  have hl : lv_has ls 4 [(0, .ref (ad 0 0)), (1, .int x), (2, .int y), (3, .int z)] := hl
  refine lv_aload_n hx hb dX8_ofSetLicences_0 rfl (lv_at hl 0 rfl) ?_
  refine lv_iload_n hx hb dX8_ofSetLicences_1 rfl (lv_at hl 1 rfl) ?_
  refine zcallRV (As := [.int x]) (rest := []) X hml hK hW (ctX5_hasRigger l D cy ad σ x) zmX5_hasRigger (by decide) m_358 (zrecv hK (hW 0 0 rfl (by decide)) rfl) ⟨Nat.le_of_ble_eq_true rfl, Nat.le_of_ble_eq_true rfl⟩ ⟨Nat.zero_le _, Nat.zero_le _⟩ rfl hl.1 rfl (Nat.le_of_ble_eq_true rfl) dX8_ofSetLicences_2 ?_
  refine zb_ne (tgt := 12) hx hb dX8_ofSetLicences_5 (by decide) (fun b1 => ?_) (fun b1 => ?_)
  · refine lv_iload_n hx hb dX8_ofSetLicences_12 rfl (lv_at hl 2 rfl) ?_
    refine lv_iload_n hx hb dX8_ofSetLicences_13 rfl (lv_at hl 3 rfl) ?_
    refine zcallRS (As := [.int y, .int z]) (rest := []) X hml hK trivial (ctX8_areLicences l D cy y z) zmX8_areLicences (by decide) m_343 ⟨Nat.le_of_ble_eq_true rfl, Nat.le_of_ble_eq_true rfl⟩ ⟨Nat.zero_le _, Nat.zero_le _⟩ rfl hl.1 rfl (Nat.le_of_ble_eq_true rfl) dX8_ofSetLicences_14 ?_
    refine zb_eq (tgt := 26) hx hb dX8_ofSetLicences_17 (by decide) (fun b2 => ?_) (fun b2 => ?_)
    · refine zgetE X hE (va_S.rf) 2 (by decide) rfl m_349 dX8_ofSetLicences_26 ?_
      exact ze_a hx hb hr hlocks (by rw [r_X8_ofSetLicences, if_pos b1, if_pos b2]) dX8_ofSetLicences_29
    · refine zgetE X hE (va_S.rf) 0 (by decide) rfl m_351 dX8_ofSetLicences_20 ?_
      refine lv_goto (tgt := 29) hx hb dX8_ofSetLicences_23 (by decide) ?_
      exact ze_a hx hb hr hlocks (by rw [r_X8_ofSetLicences, if_pos b1, if_neg (by simp [b2])]) dX8_ofSetLicences_29
  · refine zgetE X hE (va_S.rf) 1 (by decide) rfl m_362 dX8_ofSetLicences_8 ?_
    exact ze_a hx hb hr hlocks (by rw [r_X8_ofSetLicences, if_neg (by simp [b1])]) dX8_ofSetLicences_11
def r_X8_ofAddCanopy (σ : zS) (x : Int32) (y : Int32) (z : Int32) (w : Int32) : Nat := if x = 109 then if k_in y 0 9 = false then 2 else if k_in z 0 9 = false then 2 else if k_in w 1 9999 = true then if 24 ≤ (zI σ 506 0) then 4 else 0 else 2 else if x = 114 then if k_in y 0 9 = false then 2 else if k_in z 0 9 = false then 2 else if k_in w 1 9999 = true then if 24 ≤ (zI σ 506 0) then 4 else 0 else 2 else 2
theorem r_X8_ofAddCanopy_lt (σ : zS) (x : Int32) (y : Int32) (z : Int32) (w : Int32) : r_X8_ofAddCanopy σ x y z w < 5 := by
  unfold r_X8_ofAddCanopy
  (repeat' split) <;> first | decide
theorem zmX8_ofAddCanopy : zmS yX8_ofAddCanopy RX8 cX8_ofAddCanopy 5 (some (.object "Silkloft$Refusal")) 5 := ⟨m_365, m_9, m_366, rfl, by decide, by decide, by decide +kernel⟩
set_option maxRecDepth 100000 in
set_option maxHeartbeats 4000000 in
theorem ctX8_ofAddCanopy (l : Launch) (D : va_G) (cy : Nat → ClassId) (rf : Nat → Nat) (ad : Nat → Nat → Nat) (σ : zS) (x : Int32) (y : Int32) (z : Int32) (w : Int32) : Met l yX8_ofAddCanopy (zw yX8_ofAddCanopy cX8_ofAddCanopy 5 (some (.object "Silkloft$Refusal"))) (zrm 1) (va_Pc [.ref (ad 0 0), .int x, .int y, .int z, .int w] (zBE D cy rf (zW D cy ad zsL σ))) (zqR (.ref (rf (r_X8_ofAddCanopy σ x y z w)))) 0 0 (fun _ => False) := by
  refine zmet (by decide) rfl (Nat.le_of_ble_eq_true rfl) rfl (fun p e s m below meth c ls X hml hr hlocks hv hl => ?_)
  obtain ⟨hK, hE, hW⟩ := hv
  obtain ⟨hx, hb, -, -⟩ := id X
  have hl : lv_has ls 5 [(0, .ref (ad 0 0)), (1, .int x), (2, .int y), (3, .int z), (4, .int w)] := hl
  refine lv_iload_n hx hb dX8_ofAddCanopy_0 rfl (lv_at hl 1 rfl) ?_
  refine lv_bipush (v := 109) hx hb dX8_ofAddCanopy_1 (by decide) ?_
  refine lv_icmp_eq (tgt := 16) hx hb dX8_ofAddCanopy_3 (by decide) (fun b1 => ?_) (fun b1 => ?_)
  · refine lv_iload_n hx hb dX8_ofAddCanopy_16 rfl (lv_at hl 2 rfl) ?_
    refine lv_iconst (v := 0) hx hb dX8_ofAddCanopy_17 (by decide) ?_
    refine lv_bipush (v := 9) hx hb dX8_ofAddCanopy_18 (by decide) ?_
    refine zcallRS (As := [.int y, .int 0, .int 9]) (rest := []) X hml hK trivial (ctX8_isIn l D cy y 0 9) zmX8_isIn (by decide) m_346 ⟨Nat.le_of_ble_eq_true rfl, Nat.le_of_ble_eq_true rfl⟩ ⟨Nat.zero_le _, Nat.zero_le _⟩ rfl hl.1 rfl (Nat.le_of_ble_eq_true rfl) dX8_ofAddCanopy_20 ?_
    refine zb_eq (tgt := 48) hx hb dX8_ofAddCanopy_23 (by decide) (fun b2 => ?_) (fun b2 => ?_)
    · refine zgetE X hE (va_S.rf) 2 (by decide) rfl m_349 dX8_ofAddCanopy_48 ?_
      exact ze_a hx hb hr hlocks (by rw [r_X8_ofAddCanopy, if_pos b1, if_pos b2]) dX8_ofAddCanopy_51
    · refine lv_iload_n hx hb dX8_ofAddCanopy_26 rfl (lv_at hl 3 rfl) ?_
      refine lv_iconst (v := 0) hx hb dX8_ofAddCanopy_27 (by decide) ?_
      refine lv_bipush (v := 9) hx hb dX8_ofAddCanopy_28 (by decide) ?_
      refine zcallRS (As := [.int z, .int 0, .int 9]) (rest := []) X hml hK trivial (ctX8_isIn l D cy z 0 9) zmX8_isIn (by decide) m_346 ⟨Nat.le_of_ble_eq_true rfl, Nat.le_of_ble_eq_true rfl⟩ ⟨Nat.zero_le _, Nat.zero_le _⟩ rfl hl.1 rfl (Nat.le_of_ble_eq_true rfl) dX8_ofAddCanopy_30 ?_
      refine zb_eq (tgt := 48) hx hb dX8_ofAddCanopy_33 (by decide) (fun b3 => ?_) (fun b3 => ?_)
      · refine zgetE X hE (va_S.rf) 2 (by decide) rfl m_349 dX8_ofAddCanopy_48 ?_
        exact ze_a hx hb hr hlocks (by rw [r_X8_ofAddCanopy, if_pos b1, if_neg (by simp [b2]), if_pos b3]) dX8_ofAddCanopy_51
      · refine lv_iload hx hb dX8_ofAddCanopy_36 (lv_at hl 4 rfl) ?_
        refine lv_iconst (v := 1) hx hb dX8_ofAddCanopy_38 (by decide) ?_
        refine lv_sipush (v := 9999) hx hb dX8_ofAddCanopy_39 (by decide) ?_
        refine zcallRS (As := [.int w, .int 1, .int 9999]) (rest := []) X hml hK trivial (ctX8_isIn l D cy w 1 9999) zmX8_isIn (by decide) m_346 ⟨Nat.le_of_ble_eq_true rfl, Nat.le_of_ble_eq_true rfl⟩ ⟨Nat.zero_le _, Nat.zero_le _⟩ rfl hl.1 rfl (Nat.le_of_ble_eq_true rfl) dX8_ofAddCanopy_42 ?_
        refine zb_ne (tgt := 52) hx hb dX8_ofAddCanopy_45 (by decide) (fun b4 => ?_) (fun b4 => ?_)
        · refine lv_aload_n hx hb dX8_ofAddCanopy_52 rfl (lv_at hl 0 rfl) ?_
          refine zg5_6 X hK hW m_258 dX8_ofAddCanopy_53 ?_
          refine lv_bipush (v := 24) hx hb dX8_ofAddCanopy_56 (by decide) ?_
          refine lv_icmp_ge (tgt := 67) hx hb dX8_ofAddCanopy_58 (by decide) (fun b5 => ?_) (fun b5 => ?_)
          · refine zgetE X hE (va_S.rf) 4 (by decide) rfl m_353 dX8_ofAddCanopy_67 ?_
            exact ze_a hx hb hr hlocks (by rw [r_X8_ofAddCanopy, if_pos b1, if_neg (by simp [b2]), if_neg (by simp [b3]), if_pos b4, if_pos b5]) dX8_ofAddCanopy_70
          · refine zgetE X hE (va_S.rf) 0 (by decide) rfl m_351 dX8_ofAddCanopy_61 ?_
            refine lv_goto (tgt := 70) hx hb dX8_ofAddCanopy_64 (by decide) ?_
            exact ze_a hx hb hr hlocks (by rw [r_X8_ofAddCanopy, if_pos b1, if_neg (by simp [b2]), if_neg (by simp [b3]), if_pos b4, if_neg b5]) dX8_ofAddCanopy_70
        · refine zgetE X hE (va_S.rf) 2 (by decide) rfl m_349 dX8_ofAddCanopy_48 ?_
          exact ze_a hx hb hr hlocks (by rw [r_X8_ofAddCanopy, if_pos b1, if_neg (by simp [b2]), if_neg (by simp [b3]), if_neg (by simp [b4])]) dX8_ofAddCanopy_51
  · refine lv_iload_n hx hb dX8_ofAddCanopy_6 rfl (lv_at hl 1 rfl) ?_
    refine lv_bipush (v := 114) hx hb dX8_ofAddCanopy_7 (by decide) ?_
    refine lv_icmp_eq (tgt := 16) hx hb dX8_ofAddCanopy_9 (by decide) (fun b6 => ?_) (fun b6 => ?_)
    · refine lv_iload_n hx hb dX8_ofAddCanopy_16 rfl (lv_at hl 2 rfl) ?_
      refine lv_iconst (v := 0) hx hb dX8_ofAddCanopy_17 (by decide) ?_
      refine lv_bipush (v := 9) hx hb dX8_ofAddCanopy_18 (by decide) ?_
      refine zcallRS (As := [.int y, .int 0, .int 9]) (rest := []) X hml hK trivial (ctX8_isIn l D cy y 0 9) zmX8_isIn (by decide) m_346 ⟨Nat.le_of_ble_eq_true rfl, Nat.le_of_ble_eq_true rfl⟩ ⟨Nat.zero_le _, Nat.zero_le _⟩ rfl hl.1 rfl (Nat.le_of_ble_eq_true rfl) dX8_ofAddCanopy_20 ?_
      refine zb_eq (tgt := 48) hx hb dX8_ofAddCanopy_23 (by decide) (fun b7 => ?_) (fun b7 => ?_)
      · refine zgetE X hE (va_S.rf) 2 (by decide) rfl m_349 dX8_ofAddCanopy_48 ?_
        exact ze_a hx hb hr hlocks (by rw [r_X8_ofAddCanopy, if_neg b1, if_pos b6, if_pos b7]) dX8_ofAddCanopy_51
      · refine lv_iload_n hx hb dX8_ofAddCanopy_26 rfl (lv_at hl 3 rfl) ?_
        refine lv_iconst (v := 0) hx hb dX8_ofAddCanopy_27 (by decide) ?_
        refine lv_bipush (v := 9) hx hb dX8_ofAddCanopy_28 (by decide) ?_
        refine zcallRS (As := [.int z, .int 0, .int 9]) (rest := []) X hml hK trivial (ctX8_isIn l D cy z 0 9) zmX8_isIn (by decide) m_346 ⟨Nat.le_of_ble_eq_true rfl, Nat.le_of_ble_eq_true rfl⟩ ⟨Nat.zero_le _, Nat.zero_le _⟩ rfl hl.1 rfl (Nat.le_of_ble_eq_true rfl) dX8_ofAddCanopy_30 ?_
        refine zb_eq (tgt := 48) hx hb dX8_ofAddCanopy_33 (by decide) (fun b8 => ?_) (fun b8 => ?_)
        · refine zgetE X hE (va_S.rf) 2 (by decide) rfl m_349 dX8_ofAddCanopy_48 ?_
          exact ze_a hx hb hr hlocks (by rw [r_X8_ofAddCanopy, if_neg b1, if_pos b6, if_neg (by simp [b7]), if_pos b8]) dX8_ofAddCanopy_51
        · refine lv_iload hx hb dX8_ofAddCanopy_36 (lv_at hl 4 rfl) ?_
          refine lv_iconst (v := 1) hx hb dX8_ofAddCanopy_38 (by decide) ?_
          refine lv_sipush (v := 9999) hx hb dX8_ofAddCanopy_39 (by decide) ?_
          refine zcallRS (As := [.int w, .int 1, .int 9999]) (rest := []) X hml hK trivial (ctX8_isIn l D cy w 1 9999) zmX8_isIn (by decide) m_346 ⟨Nat.le_of_ble_eq_true rfl, Nat.le_of_ble_eq_true rfl⟩ ⟨Nat.zero_le _, Nat.zero_le _⟩ rfl hl.1 rfl (Nat.le_of_ble_eq_true rfl) dX8_ofAddCanopy_42 ?_
          refine zb_ne (tgt := 52) hx hb dX8_ofAddCanopy_45 (by decide) (fun b9 => ?_) (fun b9 => ?_)
          · refine lv_aload_n hx hb dX8_ofAddCanopy_52 rfl (lv_at hl 0 rfl) ?_
            refine zg5_6 X hK hW m_258 dX8_ofAddCanopy_53 ?_
            refine lv_bipush (v := 24) hx hb dX8_ofAddCanopy_56 (by decide) ?_
            refine lv_icmp_ge (tgt := 67) hx hb dX8_ofAddCanopy_58 (by decide) (fun b10 => ?_) (fun b10 => ?_)
            · refine zgetE X hE (va_S.rf) 4 (by decide) rfl m_353 dX8_ofAddCanopy_67 ?_
              exact ze_a hx hb hr hlocks (by rw [r_X8_ofAddCanopy, if_neg b1, if_pos b6, if_neg (by simp [b7]), if_neg (by simp [b8]), if_pos b9, if_pos b10]) dX8_ofAddCanopy_70
            · refine zgetE X hE (va_S.rf) 0 (by decide) rfl m_351 dX8_ofAddCanopy_61 ?_
              refine lv_goto (tgt := 70) hx hb dX8_ofAddCanopy_64 (by decide) ?_
              exact ze_a hx hb hr hlocks (by rw [r_X8_ofAddCanopy, if_neg b1, if_pos b6, if_neg (by simp [b7]), if_neg (by simp [b8]), if_pos b9, if_neg b10]) dX8_ofAddCanopy_70
          · refine zgetE X hE (va_S.rf) 2 (by decide) rfl m_349 dX8_ofAddCanopy_48 ?_
            exact ze_a hx hb hr hlocks (by rw [r_X8_ofAddCanopy, if_neg b1, if_pos b6, if_neg (by simp [b7]), if_neg (by simp [b8]), if_neg (by simp [b9])]) dX8_ofAddCanopy_51
    · refine zgetE X hE (va_S.rf) 2 (by decide) rfl m_349 dX8_ofAddCanopy_12 ?_
      exact ze_a hx hb hr hlocks (by rw [r_X8_ofAddCanopy, if_neg b1, if_neg b6]) dX8_ofAddCanopy_15
def r_X8_ofGoOn (σ : zS) (x : Int32) : Nat := if k_in x 1 999 = true then if 9999 < ((zI σ 509 0) + x) then 4 else 0 else 2
theorem r_X8_ofGoOn_lt (σ : zS) (x : Int32) : r_X8_ofGoOn σ x < 5 := by
  unfold r_X8_ofGoOn
  (repeat' split) <;> first | decide
theorem zmX8_ofGoOn : zmS yX8_ofGoOn RX8 cX8_ofGoOn 2 (some (.object "Silkloft$Refusal")) 2 := ⟨m_368, m_9, m_369, rfl, by decide, by decide, by decide +kernel⟩
set_option maxRecDepth 100000 in
set_option maxHeartbeats 4000000 in
theorem ctX8_ofGoOn (l : Launch) (D : va_G) (cy : Nat → ClassId) (rf : Nat → Nat) (ad : Nat → Nat → Nat) (σ : zS) (x : Int32) : Met l yX8_ofGoOn (zw yX8_ofGoOn cX8_ofGoOn 2 (some (.object "Silkloft$Refusal"))) (zrm 1) (va_Pc [.ref (ad 0 0), .int x] (zBE D cy rf (zW D cy ad zsL σ))) (zqR (.ref (rf (r_X8_ofGoOn σ x)))) 0 0 (fun _ => False) := by
  refine zmet (by decide) rfl (Nat.le_of_ble_eq_true rfl) rfl (fun p e s m below meth c ls X hml hr hlocks hv hl => ?_)
  obtain ⟨hK, hE, hW⟩ := hv
  obtain ⟨hx, hb, -, -⟩ := id X
  have hl : lv_has ls 2 [(0, .ref (ad 0 0)), (1, .int x)] := hl
  refine lv_iload_n hx hb dX8_ofGoOn_0 rfl (lv_at hl 1 rfl) ?_
  refine lv_iconst (v := 1) hx hb dX8_ofGoOn_1 (by decide) ?_
  refine lv_sipush (v := 999) hx hb dX8_ofGoOn_2 (by decide) ?_
  refine zcallRS (As := [.int x, .int 1, .int 999]) (rest := []) X hml hK trivial (ctX8_isIn l D cy x 1 999) zmX8_isIn (by decide) m_346 ⟨Nat.le_of_ble_eq_true rfl, Nat.le_of_ble_eq_true rfl⟩ ⟨Nat.zero_le _, Nat.zero_le _⟩ rfl hl.1 rfl (Nat.le_of_ble_eq_true rfl) dX8_ofGoOn_5 ?_
  refine zb_ne (tgt := 15) hx hb dX8_ofGoOn_8 (by decide) (fun b1 => ?_) (fun b1 => ?_)
  · refine lv_aload_n hx hb dX8_ofGoOn_15 rfl (lv_at hl 0 rfl) ?_
    refine zg5_9 X hK hW m_265 dX8_ofGoOn_16 ?_
    refine lv_iload_n hx hb dX8_ofGoOn_19 rfl (lv_at hl 1 rfl) ?_
    refine lv_iadd hx hb dX8_ofGoOn_20 ?_
    refine lv_sipush (v := 9999) hx hb dX8_ofGoOn_21 (by decide) ?_
    refine lv_icmp_gt (tgt := 33) hx hb dX8_ofGoOn_24 (by decide) (fun b2 => ?_) (fun b2 => ?_)
    · refine zgetE X hE (va_S.rf) 4 (by decide) rfl m_353 dX8_ofGoOn_33 ?_
      exact ze_a hx hb hr hlocks (by rw [r_X8_ofGoOn, if_pos b1, if_pos b2]) dX8_ofGoOn_36
    · refine zgetE X hE (va_S.rf) 0 (by decide) rfl m_351 dX8_ofGoOn_27 ?_
      refine lv_goto (tgt := 36) hx hb dX8_ofGoOn_30 (by decide) ?_
      exact ze_a hx hb hr hlocks (by rw [r_X8_ofGoOn, if_pos b1, if_neg b2]) dX8_ofGoOn_36
  · refine zgetE X hE (va_S.rf) 2 (by decide) rfl m_349 dX8_ofGoOn_11 ?_
    exact ze_a hx hb hr hlocks (by rw [r_X8_ofGoOn, if_neg (by simp [b1])]) dX8_ofGoOn_14
def r_X8_ofCanopyIn (σ : zS) (x : Int32) (ch : Int32) : Nat := if k_has σ 506 x = true then if ¬ (zI σ 105 x.toNatClampNeg) = ch then 3 else 0 else 1
theorem r_X8_ofCanopyIn_lt (σ : zS) (x : Int32) (ch : Int32) : r_X8_ofCanopyIn σ x ch < 5 := by
  unfold r_X8_ofCanopyIn
  (repeat' split) <;> first | decide
theorem zmX8_ofCanopyIn : zmS yX8_ofCanopyIn RX8 cX8_ofCanopyIn 3 (some (.object "Silkloft$Refusal")) 3 := ⟨m_391, m_9, m_392, rfl, by decide, by decide, by decide +kernel⟩
set_option maxRecDepth 100000 in
set_option maxHeartbeats 4000000 in
theorem ctX8_ofCanopyIn (l : Launch) (D : va_G) (cy : Nat → ClassId) (rf : Nat → Nat) (ad : Nat → Nat → Nat) (σ : zS) (x : Int32) (ch : Int32) (hV : zV σ) : Met l yX8_ofCanopyIn (zw yX8_ofCanopyIn cX8_ofCanopyIn 3 (some (.object "Silkloft$Refusal"))) (zrm 1) (va_Pc [.ref (ad 0 0), .int x, .int ch] (zBE D cy rf (zW D cy ad zsL σ))) (zqR (.ref (rf (r_X8_ofCanopyIn σ x ch)))) 0 0 (fun _ => False) := by
  refine zmet (by decide) rfl (Nat.le_of_ble_eq_true rfl) rfl (fun p e s m below meth c ls X hml hr hlocks hv hl => ?_)
  obtain ⟨hK, hE, hW⟩ := hv
  obtain ⟨hx, hb, -, -⟩ := id X
  have hl : lv_has ls 3 [(0, .ref (ad 0 0)), (1, .int x), (2, .int ch)] := hl
  refine lv_aload_n hx hb dX8_ofCanopyIn_0 rfl (lv_at hl 0 rfl) ?_
  refine lv_iload_n hx hb dX8_ofCanopyIn_1 rfl (lv_at hl 1 rfl) ?_
  refine zcallRV (As := [.int x]) (rest := []) X hml hK hW (ctX5_hasCanopy l D cy ad σ x) zmX5_hasCanopy (by decide) m_373 (zrecv hK (hW 0 0 rfl (by decide)) rfl) ⟨Nat.le_of_ble_eq_true rfl, Nat.le_of_ble_eq_true rfl⟩ ⟨Nat.zero_le _, Nat.zero_le _⟩ rfl hl.1 rfl (Nat.le_of_ble_eq_true rfl) dX8_ofCanopyIn_2 ?_
  refine zb_ne (tgt := 12) hx hb dX8_ofCanopyIn_5 (by decide) (fun b1 => ?_) (fun b1 => ?_)
  · refine lv_aload_n hx hb dX8_ofCanopyIn_12 rfl (lv_at hl 0 rfl) ?_
    refine zg5_1 X hK hW m_247 dX8_ofCanopyIn_13 ?_
    refine lv_iload_n hx hb dX8_ofCanopyIn_16 rfl (lv_at hl 1 rfl) ?_
    refine zr2 X hK hW (zhas_in hV.2.1 (by decide) b1) dX8_ofCanopyIn_17 ?_
    refine zg1_5 X hK hW (zvin (zhas_in hV.2.1 (by decide) b1)) m_106 dX8_ofCanopyIn_18 ?_
    refine lv_iload_n hx hb dX8_ofCanopyIn_21 rfl (lv_at hl 2 rfl) ?_
    refine lv_icmp_ne (tgt := 31) hx hb dX8_ofCanopyIn_22 (by decide) (fun b2 => ?_) (fun b2 => ?_)
    · refine zgetE X hE (va_S.rf) 3 (by decide) rfl m_377 dX8_ofCanopyIn_31 ?_
      exact ze_a hx hb hr hlocks (by rw [r_X8_ofCanopyIn, if_pos b1, if_pos b2]) dX8_ofCanopyIn_34
    · refine zgetE X hE (va_S.rf) 0 (by decide) rfl m_351 dX8_ofCanopyIn_25 ?_
      refine lv_goto (tgt := 34) hx hb dX8_ofCanopyIn_28 (by decide) ?_
      exact ze_a hx hb hr hlocks (by rw [r_X8_ofCanopyIn, if_pos b1, if_neg (not_not_intro b2)]) dX8_ofCanopyIn_34
  · refine zgetE X hE (va_S.rf) 1 (by decide) rfl m_362 dX8_ofCanopyIn_8 ?_
    exact ze_a hx hb hr hlocks (by rw [r_X8_ofCanopyIn, if_neg (by simp [b1])]) dX8_ofCanopyIn_11
def r_X8_ofHang (σ : zS) (x : Int32) (y : Int32) : Nat := if k_has σ 506 x = true then if k_in y 0 5 = true then if (zI σ 105 x.toNatClampNeg) = 111 then if k_free6 σ y = false then 4 else 0 else 3 else 2 else 1
theorem r_X8_ofHang_lt (σ : zS) (x : Int32) (y : Int32) : r_X8_ofHang σ x y < 5 := by
  unfold r_X8_ofHang
  (repeat' split) <;> first | decide
theorem zmX8_ofHang : zmS yX8_ofHang RX8 cX8_ofHang 3 (some (.object "Silkloft$Refusal")) 3 := ⟨m_371, m_9, m_372, rfl, by decide, by decide, by decide +kernel⟩
set_option maxRecDepth 100000 in
set_option maxHeartbeats 4000000 in
theorem ctX8_ofHang (l : Launch) (D : va_G) (cy : Nat → ClassId) (rf : Nat → Nat) (ad : Nat → Nat → Nat) (σ : zS) (x : Int32) (y : Int32) (hV : zV σ) : Met l yX8_ofHang (zw yX8_ofHang cX8_ofHang 3 (some (.object "Silkloft$Refusal"))) (zrm 1) (va_Pc [.ref (ad 0 0), .int x, .int y] (zBE D cy rf (zW D cy ad zsL σ))) (zqR (.ref (rf (r_X8_ofHang σ x y)))) 0 0 (fun _ => False) := by
  refine zmet (by decide) rfl (Nat.le_of_ble_eq_true rfl) rfl (fun p e s m below meth c ls X hml hr hlocks hv hl => ?_)
  obtain ⟨hK, hE, hW⟩ := hv
  obtain ⟨hx, hb, -, -⟩ := id X
  have hl : lv_has ls 3 [(0, .ref (ad 0 0)), (1, .int x), (2, .int y)] := hl
  refine lv_aload_n hx hb dX8_ofHang_0 rfl (lv_at hl 0 rfl) ?_
  refine lv_iload_n hx hb dX8_ofHang_1 rfl (lv_at hl 1 rfl) ?_
  refine zcallRV (As := [.int x]) (rest := []) X hml hK hW (ctX5_hasCanopy l D cy ad σ x) zmX5_hasCanopy (by decide) m_373 (zrecv hK (hW 0 0 rfl (by decide)) rfl) ⟨Nat.le_of_ble_eq_true rfl, Nat.le_of_ble_eq_true rfl⟩ ⟨Nat.zero_le _, Nat.zero_le _⟩ rfl hl.1 rfl (Nat.le_of_ble_eq_true rfl) dX8_ofHang_2 ?_
  refine zb_ne (tgt := 12) hx hb dX8_ofHang_5 (by decide) (fun b1 => ?_) (fun b1 => ?_)
  · refine lv_iload_n hx hb dX8_ofHang_12 rfl (lv_at hl 2 rfl) ?_
    refine lv_iconst (v := 0) hx hb dX8_ofHang_13 (by decide) ?_
    refine lv_iconst (v := 5) hx hb dX8_ofHang_14 (by decide) ?_
    refine zcallRS (As := [.int y, .int 0, .int 5]) (rest := []) X hml hK trivial (ctX8_isIn l D cy y 0 5) zmX8_isIn (by decide) m_346 ⟨Nat.le_of_ble_eq_true rfl, Nat.le_of_ble_eq_true rfl⟩ ⟨Nat.zero_le _, Nat.zero_le _⟩ rfl hl.1 rfl (Nat.le_of_ble_eq_true rfl) dX8_ofHang_15 ?_
    refine zb_ne (tgt := 25) hx hb dX8_ofHang_18 (by decide) (fun b2 => ?_) (fun b2 => ?_)
    · refine lv_aload_n hx hb dX8_ofHang_25 rfl (lv_at hl 0 rfl) ?_
      refine zg5_1 X hK hW m_247 dX8_ofHang_26 ?_
      refine lv_iload_n hx hb dX8_ofHang_29 rfl (lv_at hl 1 rfl) ?_
      refine zr2 X hK hW (zhas_in hV.2.1 (by decide) b1) dX8_ofHang_30 ?_
      refine zg1_5 X hK hW (zvin (zhas_in hV.2.1 (by decide) b1)) m_106 dX8_ofHang_31 ?_
      refine lv_bipush (v := 111) hx hb dX8_ofHang_34 (by decide) ?_
      refine lv_icmp_eq (tgt := 43) hx hb dX8_ofHang_36 (by decide) (fun b3 => ?_) (fun b3 => ?_)
      · refine lv_aload_n hx hb dX8_ofHang_43 rfl (lv_at hl 0 rfl) ?_
        refine lv_iload_n hx hb dX8_ofHang_44 rfl (lv_at hl 2 rfl) ?_
        refine zcallRV (As := [.int y]) (rest := []) X hml hK hW (ctX5_isHookFree l D cy ad σ y hV) zmX5_isHookFree (by decide) m_379 (zrecv hK (hW 0 0 rfl (by decide)) rfl) ⟨Nat.le_of_ble_eq_true rfl, Nat.le_of_ble_eq_true rfl⟩ ⟨Nat.zero_le _, Nat.zero_le _⟩ rfl hl.1 rfl (Nat.le_of_ble_eq_true rfl) dX8_ofHang_45 ?_
        refine zb_eq (tgt := 57) hx hb dX8_ofHang_48 (by decide) (fun b4 => ?_) (fun b4 => ?_)
        · refine zgetE X hE (va_S.rf) 4 (by decide) rfl m_353 dX8_ofHang_57 ?_
          exact ze_a hx hb hr hlocks (by rw [r_X8_ofHang, if_pos b1, if_pos b2, if_pos b3, if_pos b4]) dX8_ofHang_60
        · refine zgetE X hE (va_S.rf) 0 (by decide) rfl m_351 dX8_ofHang_51 ?_
          refine lv_goto (tgt := 60) hx hb dX8_ofHang_54 (by decide) ?_
          exact ze_a hx hb hr hlocks (by rw [r_X8_ofHang, if_pos b1, if_pos b2, if_pos b3, if_neg (by simp [b4])]) dX8_ofHang_60
      · refine zgetE X hE (va_S.rf) 3 (by decide) rfl m_377 dX8_ofHang_39 ?_
        exact ze_a hx hb hr hlocks (by rw [r_X8_ofHang, if_pos b1, if_pos b2, if_neg b3]) dX8_ofHang_42
    · refine zgetE X hE (va_S.rf) 2 (by decide) rfl m_349 dX8_ofHang_21 ?_
      exact ze_a hx hb hr hlocks (by rw [r_X8_ofHang, if_pos b1, if_neg (by simp [b2])]) dX8_ofHang_24
  · refine zgetE X hE (va_S.rf) 1 (by decide) rfl m_362 dX8_ofHang_8 ?_
    exact ze_a hx hb hr hlocks (by rw [r_X8_ofHang, if_neg (by simp [b1])]) dX8_ofHang_11
def r_X8_ofStep (σ : zS) (x : Int32) (y : Int32) : Nat := if k_has σ 506 x = false then 1 else if k_has σ 505 y = true then if ¬ (zI σ 105 x.toNatClampNeg) = 112 then 3 else if k_in (zI σ 107 x.toNatClampNeg) 0 4 = true then if k_may σ y.toNatClampNeg (zI σ 107 x.toNatClampNeg) (zI σ 509 0) = true then if ¬ (zI σ 107 x.toNatClampNeg) = 4 then 0 else if ¬ (zA σ 12 x.toNatClampNeg (3 : Int32).toNatClampNeg) = y then 0 else 2 else 2 else 3 else 1
theorem r_X8_ofStep_lt (σ : zS) (x : Int32) (y : Int32) : r_X8_ofStep σ x y < 5 := by
  unfold r_X8_ofStep
  (repeat' split) <;> first | decide
theorem zmX8_ofStep : zmS yX8_ofStep RX8 cX8_ofStep 6 (some (.object "Silkloft$Refusal")) 3 := ⟨m_384, m_9, m_385, rfl, by decide, by decide, by decide +kernel⟩
set_option maxRecDepth 100000 in
set_option maxHeartbeats 4000000 in
theorem ctX8_ofStep (l : Launch) (D : va_G) (cy : Nat → ClassId) (rf : Nat → Nat) (ad : Nat → Nat → Nat) (σ : zS) (x : Int32) (y : Int32) (hV : zV σ) : Met l yX8_ofStep (zw yX8_ofStep cX8_ofStep 6 (some (.object "Silkloft$Refusal"))) (zrm 1) (va_Pc [.ref (ad 0 0), .int x, .int y] (zBE D cy rf (zW D cy ad zsL σ))) (zqR (.ref (rf (r_X8_ofStep σ x y)))) 0 0 (fun _ => False) := by
  refine zmet (by decide) rfl (Nat.le_of_ble_eq_true rfl) rfl (fun p e s m below meth c ls X hml hr hlocks hv hl => ?_)
  obtain ⟨hK, hE, hW⟩ := hv
  obtain ⟨hx, hb, -, -⟩ := id X
  have hl : lv_has ls 6 [(0, .ref (ad 0 0)), (1, .int x), (2, .int y)] := hl
  refine lv_aload_n hx hb dX8_ofStep_0 rfl (lv_at hl 0 rfl) ?_
  refine lv_iload_n hx hb dX8_ofStep_1 rfl (lv_at hl 1 rfl) ?_
  refine zcallRV (As := [.int x]) (rest := []) X hml hK hW (ctX5_hasCanopy l D cy ad σ x) zmX5_hasCanopy (by decide) m_373 (zrecv hK (hW 0 0 rfl (by decide)) rfl) ⟨Nat.le_of_ble_eq_true rfl, Nat.le_of_ble_eq_true rfl⟩ ⟨Nat.zero_le _, Nat.zero_le _⟩ rfl hl.1 rfl (Nat.le_of_ble_eq_true rfl) dX8_ofStep_2 ?_
  refine zb_eq (tgt := 16) hx hb dX8_ofStep_5 (by decide) (fun b1 => ?_) (fun b1 => ?_)
  · refine zgetE X hE (va_S.rf) 1 (by decide) rfl m_362 dX8_ofStep_16 ?_
    exact ze_a hx hb hr hlocks (by rw [r_X8_ofStep, if_pos b1]) dX8_ofStep_19
  · refine lv_aload_n hx hb dX8_ofStep_8 rfl (lv_at hl 0 rfl) ?_
    refine lv_iload_n hx hb dX8_ofStep_9 rfl (lv_at hl 2 rfl) ?_
    refine zcallRV (As := [.int y]) (rest := []) X hml hK hW (ctX5_hasRigger l D cy ad σ y) zmX5_hasRigger (by decide) m_358 (zrecv hK (hW 0 0 rfl (by decide)) rfl) ⟨Nat.le_of_ble_eq_true rfl, Nat.le_of_ble_eq_true rfl⟩ ⟨Nat.zero_le _, Nat.zero_le _⟩ rfl hl.1 rfl (Nat.le_of_ble_eq_true rfl) dX8_ofStep_10 ?_
    refine zb_ne (tgt := 20) hx hb dX8_ofStep_13 (by decide) (fun b2 => ?_) (fun b2 => ?_)
    · refine lv_aload_n hx hb dX8_ofStep_20 rfl (lv_at hl 0 rfl) ?_
      refine zg5_1 X hK hW m_247 dX8_ofStep_21 ?_
      refine lv_iload_n hx hb dX8_ofStep_24 rfl (lv_at hl 1 rfl) ?_
      refine zr2 X hK hW (zhas_in hV.2.1 (by decide) b1) dX8_ofStep_25 ?_
      refine lv_astore_n (lv' := [(3, .ref (ad 11 x.toNatClampNeg)), (0, .ref (ad 0 0)), (1, .int x), (2, .int y)]) hx hb dX8_ofStep_26 rfl hl (by decide) rfl (fun ls hl => ?_)
      refine lv_aload_n hx hb dX8_ofStep_27 rfl (lv_at hl 0 rfl) ?_
      refine zg1_7 X hK hW (zvin (zhas_in hV.2.1 (by decide) b1)) m_112 dX8_ofStep_28 ?_
      refine lv_istore (lv' := [(4, .int (zI σ 107 x.toNatClampNeg)), (3, .ref (ad 11 x.toNatClampNeg)), (0, .ref (ad 0 0)), (1, .int x), (2, .int y)]) hx hb dX8_ofStep_31 hl (by decide) rfl (fun ls hl => ?_)
      refine lv_aload_n hx hb dX8_ofStep_33 rfl (lv_at hl 1 rfl) ?_
      refine zg1_5 X hK hW (zvin (zhas_in hV.2.1 (by decide) b1)) m_106 dX8_ofStep_34 ?_
      refine lv_bipush (v := 112) hx hb dX8_ofStep_37 (by decide) ?_
      refine lv_icmp_ne (tgt := 52) hx hb dX8_ofStep_39 (by decide) (fun b3 => ?_) (fun b3 => ?_)
      · refine zgetE X hE (va_S.rf) 3 (by decide) rfl m_377 dX8_ofStep_52 ?_
        exact ze_a hx hb hr hlocks (by rw [r_X8_ofStep, if_neg (by simp [b1]), if_pos b2, if_pos b3]) dX8_ofStep_55
      · refine lv_iload hx hb dX8_ofStep_42 (lv_at hl 0 rfl) ?_
        refine lv_iconst (v := 0) hx hb dX8_ofStep_44 (by decide) ?_
        refine lv_iconst (v := 4) hx hb dX8_ofStep_45 (by decide) ?_
        refine zcallRS (As := [.int (zI σ 107 x.toNatClampNeg), .int 0, .int 4]) (rest := []) X hml hK trivial (ctX8_isIn l D cy (zI σ 107 x.toNatClampNeg) 0 4) zmX8_isIn (by decide) m_346 ⟨Nat.le_of_ble_eq_true rfl, Nat.le_of_ble_eq_true rfl⟩ ⟨Nat.zero_le _, Nat.zero_le _⟩ rfl hl.1 rfl (Nat.le_of_ble_eq_true rfl) dX8_ofStep_46 ?_
        refine zb_ne (tgt := 56) hx hb dX8_ofStep_49 (by decide) (fun b4 => ?_) (fun b4 => ?_)
        · refine lv_aload_n hx hb dX8_ofStep_56 rfl (lv_at hl 2 rfl) ?_
          refine zg5_0 X hK hW m_245 dX8_ofStep_57 ?_
          refine lv_iload_n hx hb dX8_ofStep_60 rfl (lv_at hl 4 rfl) ?_
          refine zr1 X hK hW (zhas_in hV.1 (by decide) b2) dX8_ofStep_61 ?_
          refine lv_iload hx hb dX8_ofStep_62 (lv_at hl 0 rfl) ?_
          refine lv_aload_n hx hb dX8_ofStep_64 rfl (lv_at hl 2 rfl) ?_
          refine zg5_9 X hK hW m_265 dX8_ofStep_65 ?_
          refine zcallRV (As := [.int (zI σ 107 x.toNatClampNeg), .int (zI σ 509 0)]) (rest := []) X hml hK hW (ctX7_may l D cy ad σ y.toNatClampNeg (zvin (zhas_in hV.1 (by decide) b2)) (zI σ 107 x.toNatClampNeg) (zI σ 509 0)) zmX7_may (by decide) m_386 (zrecv hK (hW 10 y.toNatClampNeg rfl (zvin (zhas_in hV.1 (by decide) b2))) rfl) ⟨Nat.le_of_ble_eq_true rfl, Nat.le_of_ble_eq_true rfl⟩ ⟨Nat.zero_le _, Nat.zero_le _⟩ rfl hl.1 rfl (Nat.le_of_ble_eq_true rfl) dX8_ofStep_68 ?_
          refine zb_ne (tgt := 78) hx hb dX8_ofStep_71 (by decide) (fun b5 => ?_) (fun b5 => ?_)
          · refine lv_iload hx hb dX8_ofStep_78 (lv_at hl 0 rfl) ?_
            refine lv_iconst (v := 4) hx hb dX8_ofStep_80 (by decide) ?_
            refine lv_icmp_ne (tgt := 98) hx hb dX8_ofStep_81 (by decide) (fun b6 => ?_) (fun b6 => ?_)
            · refine lv_iconst (v := 0) hx hb dX8_ofStep_98 (by decide) ?_
              refine lv_istore (lv' := [(5, .int 0), (4, .int (zI σ 107 x.toNatClampNeg)), (3, .ref (ad 11 x.toNatClampNeg)), (0, .ref (ad 0 0)), (1, .int x), (2, .int y)]) hx hb dX8_ofStep_99 hl (by decide) rfl (fun ls hl => ?_)
              refine lv_iload hx hb dX8_ofStep_101 (lv_at hl 0 rfl) ?_
              refine lv_if_eq (tgt := 112) hx hb dX8_ofStep_103 (by decide) (fun _ => ?_) (fun h => absurd h (by decide))
              refine zgetE X hE (va_S.rf) 0 (by decide) rfl m_351 dX8_ofStep_112 ?_
              exact ze_a hx hb hr hlocks (by rw [r_X8_ofStep, if_neg (by simp [b1]), if_pos b2, if_neg (not_not_intro b3), if_pos b4, if_pos b5, if_pos b6]) dX8_ofStep_115
            · refine lv_aload_n hx hb dX8_ofStep_84 rfl (lv_at hl 1 rfl) ?_
              refine zg1_8 X hK hW (zvin (zhas_in hV.2.1 (by decide) b1)) m_115 dX8_ofStep_85 ?_
              refine lv_iconst (v := 3) hx hb dX8_ofStep_88 (by decide) ?_
              refine za12 X hK hW (zvin (zhas_in hV.2.1 (by decide) b1)) (vp_in_nI (n := 3) (by decide) (by decide)) dX8_ofStep_89 ?_
              refine lv_iload_n hx hb dX8_ofStep_90 rfl (lv_at hl 4 rfl) ?_
              refine lv_icmp_ne (tgt := 98) hx hb dX8_ofStep_91 (by decide) (fun b8 => ?_) (fun b8 => ?_)
              · refine lv_iconst (v := 0) hx hb dX8_ofStep_98 (by decide) ?_
                refine lv_istore (lv' := [(5, .int 0), (4, .int (zI σ 107 x.toNatClampNeg)), (3, .ref (ad 11 x.toNatClampNeg)), (0, .ref (ad 0 0)), (1, .int x), (2, .int y)]) hx hb dX8_ofStep_99 hl (by decide) rfl (fun ls hl => ?_)
                refine lv_iload hx hb dX8_ofStep_101 (lv_at hl 0 rfl) ?_
                refine lv_if_eq (tgt := 112) hx hb dX8_ofStep_103 (by decide) (fun _ => ?_) (fun h => absurd h (by decide))
                refine zgetE X hE (va_S.rf) 0 (by decide) rfl m_351 dX8_ofStep_112 ?_
                exact ze_a hx hb hr hlocks (by rw [r_X8_ofStep, if_neg (by simp [b1]), if_pos b2, if_neg (not_not_intro b3), if_pos b4, if_pos b5, if_neg (not_not_intro b6), if_pos b8]) dX8_ofStep_115
              · refine lv_iconst (v := 1) hx hb dX8_ofStep_94 (by decide) ?_
                refine lv_goto (tgt := 99) hx hb dX8_ofStep_95 (by decide) ?_
                refine lv_istore (lv' := [(5, .int 1), (4, .int (zI σ 107 x.toNatClampNeg)), (3, .ref (ad 11 x.toNatClampNeg)), (0, .ref (ad 0 0)), (1, .int x), (2, .int y)]) hx hb dX8_ofStep_99 hl (by decide) rfl (fun ls hl => ?_)
                refine lv_iload hx hb dX8_ofStep_101 (lv_at hl 0 rfl) ?_
                refine lv_if_eq (tgt := 112) hx hb dX8_ofStep_103 (by decide) (fun h => absurd h (by decide)) (fun _ => ?_)
                refine zgetE X hE (va_S.rf) 2 (by decide) rfl m_349 dX8_ofStep_106 ?_
                refine lv_goto (tgt := 115) hx hb dX8_ofStep_109 (by decide) ?_
                exact ze_a hx hb hr hlocks (by rw [r_X8_ofStep, if_neg (by simp [b1]), if_pos b2, if_neg (not_not_intro b3), if_pos b4, if_pos b5, if_neg (not_not_intro b6), if_neg (not_not_intro b8)]) dX8_ofStep_115
          · refine zgetE X hE (va_S.rf) 2 (by decide) rfl m_349 dX8_ofStep_74 ?_
            exact ze_a hx hb hr hlocks (by rw [r_X8_ofStep, if_neg (by simp [b1]), if_pos b2, if_neg (not_not_intro b3), if_pos b4, if_neg (by simp [b5])]) dX8_ofStep_77
        · refine zgetE X hE (va_S.rf) 3 (by decide) rfl m_377 dX8_ofStep_52 ?_
          exact ze_a hx hb hr hlocks (by rw [r_X8_ofStep, if_neg (by simp [b1]), if_pos b2, if_neg (not_not_intro b3), if_neg (by simp [b4])]) dX8_ofStep_55
    · refine zgetE X hE (va_S.rf) 1 (by decide) rfl m_362 dX8_ofStep_16 ?_
      exact ze_a hx hb hr hlocks (by rw [r_X8_ofStep, if_neg (by simp [b1]), if_neg (by simp [b2])]) dX8_ofStep_19
def r_X8_ofBoard (σ : zS) (x : Int32) (y : Int32) (z : Int32) : Nat := if k_has σ 507 x = false then 1 else if k_has σ 506 y = false then 1 else if k_has σ 506 z = true then if ¬ (zI σ 100 y.toNatClampNeg) = 109 then 2 else if (zI σ 100 z.toNatClampNeg) = 114 then if ¬ (zI σ 105 y.toNatClampNeg) = 107 then 3 else if ¬ (zI σ 105 z.toNatClampNeg) = 107 then 3 else if (zI σ 401 x.toNatClampNeg) = 0 then if k_fit σ y.toNatClampNeg = false then 3 else if k_fit σ z.toNatClampNeg = true then if 6 ≤ (zI σ 400 x.toNatClampNeg) then 4 else 0 else 3 else 3 else 2 else 1
theorem r_X8_ofBoard_lt (σ : zS) (x : Int32) (y : Int32) (z : Int32) : r_X8_ofBoard σ x y z < 5 := by
  unfold r_X8_ofBoard
  (repeat' split) <;> first | decide
theorem zmX8_ofBoard : zmS yX8_ofBoard RX8 cX8_ofBoard 6 (some (.object "Silkloft$Refusal")) 4 := ⟨m_394, m_9, m_395, rfl, by decide, by decide, by decide +kernel⟩
set_option maxRecDepth 100000 in
set_option maxHeartbeats 4000000 in
theorem ctX8_ofBoard (l : Launch) (D : va_G) (cy : Nat → ClassId) (rf : Nat → Nat) (ad : Nat → Nat → Nat) (σ : zS) (x : Int32) (y : Int32) (z : Int32) (hV : zV σ) : Met l yX8_ofBoard (zw yX8_ofBoard cX8_ofBoard 6 (some (.object "Silkloft$Refusal"))) (zrm 5) (va_Pc [.ref (ad 0 0), .int x, .int y, .int z] (zBE D cy rf (zW D cy ad zsL σ))) (zqR (.ref (rf (r_X8_ofBoard σ x y z)))) 0 0 (fun _ => False) := by
  refine zmet (by decide) rfl (Nat.le_of_ble_eq_true rfl) rfl (fun p e s m below meth c ls X hml hr hlocks hv hl => ?_)
  obtain ⟨hK, hE, hW⟩ := hv
  obtain ⟨hx, hb, -, -⟩ := id X
  have hl : lv_has ls 6 [(0, .ref (ad 0 0)), (1, .int x), (2, .int y), (3, .int z)] := hl
  refine lv_aload_n hx hb dX8_ofBoard_0 rfl (lv_at hl 0 rfl) ?_
  refine lv_iload_n hx hb dX8_ofBoard_1 rfl (lv_at hl 1 rfl) ?_
  refine zcallRV (As := [.int x]) (rest := []) X hml hK hW (ctX5_hasLoad l D cy ad σ x) zmX5_hasLoad (by decide) m_396 (zrecv hK (hW 0 0 rfl (by decide)) rfl) ⟨Nat.le_of_ble_eq_true rfl, Nat.le_of_ble_eq_true rfl⟩ ⟨Nat.zero_le _, Nat.zero_le _⟩ rfl hl.1 rfl (Nat.le_of_ble_eq_true rfl) dX8_ofBoard_2 ?_
  refine zb_eq (tgt := 24) hx hb dX8_ofBoard_5 (by decide) (fun b1 => ?_) (fun b1 => ?_)
  · refine zgetE X hE (va_S.rf) 1 (by decide) rfl m_362 dX8_ofBoard_24 ?_
    exact ze_a hx hb hr hlocks (by rw [r_X8_ofBoard, if_pos b1]) dX8_ofBoard_27
  · refine lv_aload_n hx hb dX8_ofBoard_8 rfl (lv_at hl 0 rfl) ?_
    refine lv_iload_n hx hb dX8_ofBoard_9 rfl (lv_at hl 2 rfl) ?_
    refine zcallRV (As := [.int y]) (rest := []) X hml hK hW (ctX5_hasCanopy l D cy ad σ y) zmX5_hasCanopy (by decide) m_373 (zrecv hK (hW 0 0 rfl (by decide)) rfl) ⟨Nat.le_of_ble_eq_true rfl, Nat.le_of_ble_eq_true rfl⟩ ⟨Nat.zero_le _, Nat.zero_le _⟩ rfl hl.1 rfl (Nat.le_of_ble_eq_true rfl) dX8_ofBoard_10 ?_
    refine zb_eq (tgt := 24) hx hb dX8_ofBoard_13 (by decide) (fun b2 => ?_) (fun b2 => ?_)
    · refine zgetE X hE (va_S.rf) 1 (by decide) rfl m_362 dX8_ofBoard_24 ?_
      exact ze_a hx hb hr hlocks (by rw [r_X8_ofBoard, if_neg (by simp [b1]), if_pos b2]) dX8_ofBoard_27
    · refine lv_aload_n hx hb dX8_ofBoard_16 rfl (lv_at hl 0 rfl) ?_
      refine lv_iload_n hx hb dX8_ofBoard_17 rfl (lv_at hl 3 rfl) ?_
      refine zcallRV (As := [.int z]) (rest := []) X hml hK hW (ctX5_hasCanopy l D cy ad σ z) zmX5_hasCanopy (by decide) m_373 (zrecv hK (hW 0 0 rfl (by decide)) rfl) ⟨Nat.le_of_ble_eq_true rfl, Nat.le_of_ble_eq_true rfl⟩ ⟨Nat.zero_le _, Nat.zero_le _⟩ rfl hl.1 rfl (Nat.le_of_ble_eq_true rfl) dX8_ofBoard_18 ?_
      refine zb_ne (tgt := 28) hx hb dX8_ofBoard_21 (by decide) (fun b3 => ?_) (fun b3 => ?_)
      · refine lv_aload_n hx hb dX8_ofBoard_28 rfl (lv_at hl 0 rfl) ?_
        refine zg5_1 X hK hW m_247 dX8_ofBoard_29 ?_
        refine lv_iload_n hx hb dX8_ofBoard_32 rfl (lv_at hl 2 rfl) ?_
        refine zr2 X hK hW (zhas_in hV.2.1 (by decide) b2) dX8_ofBoard_33 ?_
        refine lv_astore (lv' := [(4, .ref (ad 11 y.toNatClampNeg)), (0, .ref (ad 0 0)), (1, .int x), (2, .int y), (3, .int z)]) hx hb dX8_ofBoard_34 hl (by decide) rfl (fun ls hl => ?_)
        refine lv_aload_n hx hb dX8_ofBoard_36 rfl (lv_at hl 1 rfl) ?_
        refine zg5_1 X hK hW m_247 dX8_ofBoard_37 ?_
        refine lv_iload_n hx hb dX8_ofBoard_40 rfl (lv_at hl 4 rfl) ?_
        refine zr2 X hK hW (zhas_in hV.2.1 (by decide) b3) dX8_ofBoard_41 ?_
        refine lv_astore (lv' := [(5, .ref (ad 11 z.toNatClampNeg)), (4, .ref (ad 11 y.toNatClampNeg)), (0, .ref (ad 0 0)), (1, .int x), (2, .int y), (3, .int z)]) hx hb dX8_ofBoard_42 hl (by decide) rfl (fun ls hl => ?_)
        refine lv_aload hx hb dX8_ofBoard_44 (lv_at hl 1 rfl) ?_
        refine zg1_0 X hK hW (zvin (zhas_in hV.2.1 (by decide) b2)) m_95 dX8_ofBoard_46 ?_
        refine lv_bipush (v := 109) hx hb dX8_ofBoard_49 (by decide) ?_
        refine lv_icmp_ne (tgt := 64) hx hb dX8_ofBoard_51 (by decide) (fun b4 => ?_) (fun b4 => ?_)
        · refine zgetE X hE (va_S.rf) 2 (by decide) rfl m_349 dX8_ofBoard_64 ?_
          exact ze_a hx hb hr hlocks (by rw [r_X8_ofBoard, if_neg (by simp [b1]), if_neg (by simp [b2]), if_pos b3, if_pos b4]) dX8_ofBoard_67
        · refine lv_aload hx hb dX8_ofBoard_54 (lv_at hl 0 rfl) ?_
          refine zg1_0 X hK hW (zvin (zhas_in hV.2.1 (by decide) b3)) m_95 dX8_ofBoard_56 ?_
          refine lv_bipush (v := 114) hx hb dX8_ofBoard_59 (by decide) ?_
          refine lv_icmp_eq (tgt := 68) hx hb dX8_ofBoard_61 (by decide) (fun b5 => ?_) (fun b5 => ?_)
          · refine lv_aload hx hb dX8_ofBoard_68 (lv_at hl 1 rfl) ?_
            refine zg1_5 X hK hW (zvin (zhas_in hV.2.1 (by decide) b2)) m_106 dX8_ofBoard_70 ?_
            refine lv_bipush (v := 107) hx hb dX8_ofBoard_73 (by decide) ?_
            refine lv_icmp_ne (tgt := 100) hx hb dX8_ofBoard_75 (by decide) (fun b6 => ?_) (fun b6 => ?_)
            · refine zgetE X hE (va_S.rf) 3 (by decide) rfl m_377 dX8_ofBoard_100 ?_
              exact ze_a hx hb hr hlocks (by rw [r_X8_ofBoard, if_neg (by simp [b1]), if_neg (by simp [b2]), if_pos b3, if_neg (not_not_intro b4), if_pos b5, if_pos b6]) dX8_ofBoard_103
            · refine lv_aload hx hb dX8_ofBoard_78 (lv_at hl 0 rfl) ?_
              refine zg1_5 X hK hW (zvin (zhas_in hV.2.1 (by decide) b3)) m_106 dX8_ofBoard_80 ?_
              refine lv_bipush (v := 107) hx hb dX8_ofBoard_83 (by decide) ?_
              refine lv_icmp_ne (tgt := 100) hx hb dX8_ofBoard_85 (by decide) (fun b7 => ?_) (fun b7 => ?_)
              · refine zgetE X hE (va_S.rf) 3 (by decide) rfl m_377 dX8_ofBoard_100 ?_
                exact ze_a hx hb hr hlocks (by rw [r_X8_ofBoard, if_neg (by simp [b1]), if_neg (by simp [b2]), if_pos b3, if_neg (not_not_intro b4), if_pos b5, if_neg (not_not_intro b6), if_pos b7]) dX8_ofBoard_103
              · refine lv_aload_n hx hb dX8_ofBoard_88 rfl (lv_at hl 2 rfl) ?_
                refine zg5_2 X hK hW m_250 dX8_ofBoard_89 ?_
                refine lv_iload_n hx hb dX8_ofBoard_92 rfl (lv_at hl 3 rfl) ?_
                refine zr3 X hK hW (zhas_in hV.2.2.1 (by decide) b1) dX8_ofBoard_93 ?_
                refine zg4_1 X hK hW (zvin (zhas_in hV.2.2.1 (by decide) b1)) m_189 dX8_ofBoard_94 ?_
                refine lv_if_eq (tgt := 104) hx hb dX8_ofBoard_97 (by decide) (fun b8 => ?_) (fun b8 => ?_)
                · refine lv_aload_n hx hb dX8_ofBoard_104 rfl (lv_at hl 2 rfl) ?_
                  refine lv_iload_n hx hb dX8_ofBoard_105 rfl (lv_at hl 4 rfl) ?_
                  refine zcallRV (As := [.int y]) (rest := []) X hml hK hW (ctX5_isFitToJump_x l D cy ad σ y (zhas_in hV.2.1 (by decide) b2) hV) zmX5_isFitToJump (by decide) m_400 (zrecv hK (hW 0 0 rfl (by decide)) rfl) ⟨Nat.le_of_ble_eq_true rfl, Nat.le_of_ble_eq_true rfl⟩ ⟨Nat.zero_le _, Nat.zero_le _⟩ rfl hl.1 rfl (Nat.le_of_ble_eq_true rfl) dX8_ofBoard_106 ?_
                  refine zb_eq (tgt := 120) hx hb dX8_ofBoard_109 (by decide) (fun b9 => ?_) (fun b9 => ?_)
                  · refine zgetE X hE (va_S.rf) 3 (by decide) rfl m_377 dX8_ofBoard_120 ?_
                    exact ze_a hx hb hr hlocks (by rw [r_X8_ofBoard, if_neg (by simp [b1]), if_neg (by simp [b2]), if_pos b3, if_neg (not_not_intro b4), if_pos b5, if_neg (not_not_intro b6), if_neg (not_not_intro b7), if_pos b8, if_pos b9]) dX8_ofBoard_123
                  · refine lv_aload_n hx hb dX8_ofBoard_112 rfl (lv_at hl 2 rfl) ?_
                    refine lv_iload_n hx hb dX8_ofBoard_113 rfl (lv_at hl 5 rfl) ?_
                    refine zcallRV (As := [.int z]) (rest := []) X hml hK hW (ctX5_isFitToJump_x l D cy ad σ z (zhas_in hV.2.1 (by decide) b3) hV) zmX5_isFitToJump (by decide) m_400 (zrecv hK (hW 0 0 rfl (by decide)) rfl) ⟨Nat.le_of_ble_eq_true rfl, Nat.le_of_ble_eq_true rfl⟩ ⟨Nat.zero_le _, Nat.zero_le _⟩ rfl hl.1 rfl (Nat.le_of_ble_eq_true rfl) dX8_ofBoard_114 ?_
                    refine zb_ne (tgt := 124) hx hb dX8_ofBoard_117 (by decide) (fun b10 => ?_) (fun b10 => ?_)
                    · refine lv_aload_n hx hb dX8_ofBoard_124 rfl (lv_at hl 2 rfl) ?_
                      refine zg5_2 X hK hW m_250 dX8_ofBoard_125 ?_
                      refine lv_iload_n hx hb dX8_ofBoard_128 rfl (lv_at hl 3 rfl) ?_
                      refine zr3 X hK hW (zhas_in hV.2.2.1 (by decide) b1) dX8_ofBoard_129 ?_
                      refine zg4_0 X hK hW (zvin (zhas_in hV.2.2.1 (by decide) b1)) m_186 dX8_ofBoard_130 ?_
                      refine lv_bipush (v := 6) hx hb dX8_ofBoard_133 (by decide) ?_
                      refine lv_icmp_ge (tgt := 144) hx hb dX8_ofBoard_135 (by decide) (fun b11 => ?_) (fun b11 => ?_)
                      · refine zgetE X hE (va_S.rf) 4 (by decide) rfl m_353 dX8_ofBoard_144 ?_
                        exact ze_a hx hb hr hlocks (by rw [r_X8_ofBoard, if_neg (by simp [b1]), if_neg (by simp [b2]), if_pos b3, if_neg (not_not_intro b4), if_pos b5, if_neg (not_not_intro b6), if_neg (not_not_intro b7), if_pos b8, if_neg (by simp [b9]), if_pos b10, if_pos b11]) dX8_ofBoard_147
                      · refine zgetE X hE (va_S.rf) 0 (by decide) rfl m_351 dX8_ofBoard_138 ?_
                        refine lv_goto (tgt := 147) hx hb dX8_ofBoard_141 (by decide) ?_
                        exact ze_a hx hb hr hlocks (by rw [r_X8_ofBoard, if_neg (by simp [b1]), if_neg (by simp [b2]), if_pos b3, if_neg (not_not_intro b4), if_pos b5, if_neg (not_not_intro b6), if_neg (not_not_intro b7), if_pos b8, if_neg (by simp [b9]), if_pos b10, if_neg b11]) dX8_ofBoard_147
                    · refine zgetE X hE (va_S.rf) 3 (by decide) rfl m_377 dX8_ofBoard_120 ?_
                      exact ze_a hx hb hr hlocks (by rw [r_X8_ofBoard, if_neg (by simp [b1]), if_neg (by simp [b2]), if_pos b3, if_neg (not_not_intro b4), if_pos b5, if_neg (not_not_intro b6), if_neg (not_not_intro b7), if_pos b8, if_neg (by simp [b9]), if_neg (by simp [b10])]) dX8_ofBoard_123
                · refine zgetE X hE (va_S.rf) 3 (by decide) rfl m_377 dX8_ofBoard_100 ?_
                  exact ze_a hx hb hr hlocks (by rw [r_X8_ofBoard, if_neg (by simp [b1]), if_neg (by simp [b2]), if_pos b3, if_neg (not_not_intro b4), if_pos b5, if_neg (not_not_intro b6), if_neg (not_not_intro b7), if_neg b8]) dX8_ofBoard_103
          · refine zgetE X hE (va_S.rf) 2 (by decide) rfl m_349 dX8_ofBoard_64 ?_
            exact ze_a hx hb hr hlocks (by rw [r_X8_ofBoard, if_neg (by simp [b1]), if_neg (by simp [b2]), if_pos b3, if_neg (not_not_intro b4), if_neg b5]) dX8_ofBoard_67
      · refine zgetE X hE (va_S.rf) 1 (by decide) rfl m_362 dX8_ofBoard_24 ?_
        exact ze_a hx hb hr hlocks (by rw [r_X8_ofBoard, if_neg (by simp [b1]), if_neg (by simp [b2]), if_neg (by simp [b3])]) dX8_ofBoard_27
def r_X8_ofLeave (σ : zS) (x : Int32) : Nat := if k_has σ 507 x = true then if (zI σ 400 x.toNatClampNeg) = 0 then 3 else if (zI σ 401 x.toNatClampNeg) = 0 then 0 else 3 else 1
theorem r_X8_ofLeave_lt (σ : zS) (x : Int32) : r_X8_ofLeave σ x < 5 := by
  unfold r_X8_ofLeave
  (repeat' split) <;> first | decide
theorem zmX8_ofLeave : zmS yX8_ofLeave RX8 cX8_ofLeave 2 (some (.object "Silkloft$Refusal")) 2 := ⟨m_437, m_9, m_438, rfl, by decide, by decide, by decide +kernel⟩
set_option maxRecDepth 100000 in
set_option maxHeartbeats 4000000 in
theorem ctX8_ofLeave (l : Launch) (D : va_G) (cy : Nat → ClassId) (rf : Nat → Nat) (ad : Nat → Nat → Nat) (σ : zS) (x : Int32) (hV : zV σ) : Met l yX8_ofLeave (zw yX8_ofLeave cX8_ofLeave 2 (some (.object "Silkloft$Refusal"))) (zrm 1) (va_Pc [.ref (ad 0 0), .int x] (zBE D cy rf (zW D cy ad zsL σ))) (zqR (.ref (rf (r_X8_ofLeave σ x)))) 0 0 (fun _ => False) := by
  refine zmet (by decide) rfl (Nat.le_of_ble_eq_true rfl) rfl (fun p e s m below meth c ls X hml hr hlocks hv hl => ?_)
  obtain ⟨hK, hE, hW⟩ := hv
  obtain ⟨hx, hb, -, -⟩ := id X
  have hl : lv_has ls 2 [(0, .ref (ad 0 0)), (1, .int x)] := hl
  refine lv_aload_n hx hb dX8_ofLeave_0 rfl (lv_at hl 0 rfl) ?_
  refine lv_iload_n hx hb dX8_ofLeave_1 rfl (lv_at hl 1 rfl) ?_
  refine zcallRV (As := [.int x]) (rest := []) X hml hK hW (ctX5_hasLoad l D cy ad σ x) zmX5_hasLoad (by decide) m_396 (zrecv hK (hW 0 0 rfl (by decide)) rfl) ⟨Nat.le_of_ble_eq_true rfl, Nat.le_of_ble_eq_true rfl⟩ ⟨Nat.zero_le _, Nat.zero_le _⟩ rfl hl.1 rfl (Nat.le_of_ble_eq_true rfl) dX8_ofLeave_2 ?_
  refine zb_ne (tgt := 12) hx hb dX8_ofLeave_5 (by decide) (fun b1 => ?_) (fun b1 => ?_)
  · refine lv_aload_n hx hb dX8_ofLeave_12 rfl (lv_at hl 0 rfl) ?_
    refine zg5_2 X hK hW m_250 dX8_ofLeave_13 ?_
    refine lv_iload_n hx hb dX8_ofLeave_16 rfl (lv_at hl 1 rfl) ?_
    refine zr3 X hK hW (zhas_in hV.2.2.1 (by decide) b1) dX8_ofLeave_17 ?_
    refine zg4_0 X hK hW (zvin (zhas_in hV.2.2.1 (by decide) b1)) m_186 dX8_ofLeave_18 ?_
    refine lv_if_eq (tgt := 36) hx hb dX8_ofLeave_21 (by decide) (fun b2 => ?_) (fun b2 => ?_)
    · refine zgetE X hE (va_S.rf) 3 (by decide) rfl m_377 dX8_ofLeave_36 ?_
      refine lv_goto (tgt := 45) hx hb dX8_ofLeave_39 (by decide) ?_
      exact ze_a hx hb hr hlocks (by rw [r_X8_ofLeave, if_pos b1, if_pos b2]) dX8_ofLeave_45
    · refine lv_aload_n hx hb dX8_ofLeave_24 rfl (lv_at hl 0 rfl) ?_
      refine zg5_2 X hK hW m_250 dX8_ofLeave_25 ?_
      refine lv_iload_n hx hb dX8_ofLeave_28 rfl (lv_at hl 1 rfl) ?_
      refine zr3 X hK hW (zhas_in hV.2.2.1 (by decide) b1) dX8_ofLeave_29 ?_
      refine zg4_1 X hK hW (zvin (zhas_in hV.2.2.1 (by decide) b1)) m_189 dX8_ofLeave_30 ?_
      refine lv_if_eq (tgt := 42) hx hb dX8_ofLeave_33 (by decide) (fun b3 => ?_) (fun b3 => ?_)
      · refine zgetE X hE (va_S.rf) 0 (by decide) rfl m_351 dX8_ofLeave_42 ?_
        exact ze_a hx hb hr hlocks (by rw [r_X8_ofLeave, if_pos b1, if_neg b2, if_pos b3]) dX8_ofLeave_45
      · refine zgetE X hE (va_S.rf) 3 (by decide) rfl m_377 dX8_ofLeave_36 ?_
        refine lv_goto (tgt := 45) hx hb dX8_ofLeave_39 (by decide) ?_
        exact ze_a hx hb hr hlocks (by rw [r_X8_ofLeave, if_pos b1, if_neg b2, if_neg b3]) dX8_ofLeave_45
  · refine zgetE X hE (va_S.rf) 1 (by decide) rfl m_362 dX8_ofLeave_8 ?_
    exact ze_a hx hb hr hlocks (by rw [r_X8_ofLeave, if_neg (by simp [b1])]) dX8_ofLeave_11
def r_X8_ofFind (σ : zS) (x : Int32) : Nat := if k_has σ 506 x = true then if 12 ≤ (zI σ 508 0) then 4 else 0 else 1
theorem r_X8_ofFind_lt (σ : zS) (x : Int32) : r_X8_ofFind σ x < 5 := by
  unfold r_X8_ofFind
  (repeat' split) <;> first | decide
theorem zmX8_ofFind : zmS yX8_ofFind RX8 cX8_ofFind 2 (some (.object "Silkloft$Refusal")) 2 := ⟨m_443, m_9, m_444, rfl, by decide, by decide, by decide +kernel⟩
set_option maxRecDepth 100000 in
set_option maxHeartbeats 4000000 in
theorem ctX8_ofFind (l : Launch) (D : va_G) (cy : Nat → ClassId) (rf : Nat → Nat) (ad : Nat → Nat → Nat) (σ : zS) (x : Int32) : Met l yX8_ofFind (zw yX8_ofFind cX8_ofFind 2 (some (.object "Silkloft$Refusal"))) (zrm 1) (va_Pc [.ref (ad 0 0), .int x] (zBE D cy rf (zW D cy ad zsL σ))) (zqR (.ref (rf (r_X8_ofFind σ x)))) 0 0 (fun _ => False) := by
  refine zmet (by decide) rfl (Nat.le_of_ble_eq_true rfl) rfl (fun p e s m below meth c ls X hml hr hlocks hv hl => ?_)
  obtain ⟨hK, hE, hW⟩ := hv
  obtain ⟨hx, hb, -, -⟩ := id X
  have hl : lv_has ls 2 [(0, .ref (ad 0 0)), (1, .int x)] := hl
  refine lv_aload_n hx hb dX8_ofFind_0 rfl (lv_at hl 0 rfl) ?_
  refine lv_iload_n hx hb dX8_ofFind_1 rfl (lv_at hl 1 rfl) ?_
  refine zcallRV (As := [.int x]) (rest := []) X hml hK hW (ctX5_hasCanopy l D cy ad σ x) zmX5_hasCanopy (by decide) m_373 (zrecv hK (hW 0 0 rfl (by decide)) rfl) ⟨Nat.le_of_ble_eq_true rfl, Nat.le_of_ble_eq_true rfl⟩ ⟨Nat.zero_le _, Nat.zero_le _⟩ rfl hl.1 rfl (Nat.le_of_ble_eq_true rfl) dX8_ofFind_2 ?_
  refine zb_ne (tgt := 12) hx hb dX8_ofFind_5 (by decide) (fun b1 => ?_) (fun b1 => ?_)
  · refine lv_aload_n hx hb dX8_ofFind_12 rfl (lv_at hl 0 rfl) ?_
    refine zg5_8 X hK hW m_263 dX8_ofFind_13 ?_
    refine lv_bipush (v := 12) hx hb dX8_ofFind_16 (by decide) ?_
    refine lv_icmp_ge (tgt := 27) hx hb dX8_ofFind_18 (by decide) (fun b2 => ?_) (fun b2 => ?_)
    · refine zgetE X hE (va_S.rf) 4 (by decide) rfl m_353 dX8_ofFind_27 ?_
      exact ze_a hx hb hr hlocks (by rw [r_X8_ofFind, if_pos b1, if_pos b2]) dX8_ofFind_30
    · refine zgetE X hE (va_S.rf) 0 (by decide) rfl m_351 dX8_ofFind_21 ?_
      refine lv_goto (tgt := 30) hx hb dX8_ofFind_24 (by decide) ?_
      exact ze_a hx hb hr hlocks (by rw [r_X8_ofFind, if_pos b1, if_neg b2]) dX8_ofFind_30
  · refine zgetE X hE (va_S.rf) 1 (by decide) rfl m_362 dX8_ofFind_8 ?_
    exact ze_a hx hb hr hlocks (by rw [r_X8_ofFind, if_neg (by simp [b1])]) dX8_ofFind_11
def r_X8_ofWiden (σ : zS) (x : Int32) : Nat := if k_has σ 508 x = true then if ¬ (zI σ 304 x.toNatClampNeg) = 0 then 3 else if ¬ (zI σ 303 x.toNatClampNeg) = 45 then 3 else if (zI σ 302 x.toNatClampNeg) < 4 then 0 else 3 else 1
theorem r_X8_ofWiden_lt (σ : zS) (x : Int32) : r_X8_ofWiden σ x < 5 := by
  unfold r_X8_ofWiden
  (repeat' split) <;> first | decide
theorem zmX8_ofWiden : zmS yX8_ofWiden RX8 cX8_ofWiden 4 (some (.object "Silkloft$Refusal")) 2 := ⟨m_446, m_9, m_447, rfl, by decide, by decide, by decide +kernel⟩
set_option maxRecDepth 100000 in
set_option maxHeartbeats 4000000 in
theorem ctX8_ofWiden (l : Launch) (D : va_G) (cy : Nat → ClassId) (rf : Nat → Nat) (ad : Nat → Nat → Nat) (σ : zS) (x : Int32) (hV : zV σ) : Met l yX8_ofWiden (zw yX8_ofWiden cX8_ofWiden 4 (some (.object "Silkloft$Refusal"))) (zrm 1) (va_Pc [.ref (ad 0 0), .int x] (zBE D cy rf (zW D cy ad zsL σ))) (zqR (.ref (rf (r_X8_ofWiden σ x)))) 0 0 (fun _ => False) := by
  refine zmet (by decide) rfl (Nat.le_of_ble_eq_true rfl) rfl (fun p e s m below meth c ls X hml hr hlocks hv hl => ?_)
  obtain ⟨hK, hE, hW⟩ := hv
  obtain ⟨hx, hb, -, -⟩ := id X
  have hl : lv_has ls 4 [(0, .ref (ad 0 0)), (1, .int x)] := hl
  refine lv_aload_n hx hb dX8_ofWiden_0 rfl (lv_at hl 0 rfl) ?_
  refine lv_iload_n hx hb dX8_ofWiden_1 rfl (lv_at hl 1 rfl) ?_
  refine zcallRV (As := [.int x]) (rest := []) X hml hK hW (ctX5_hasFinding l D cy ad σ x) zmX5_hasFinding (by decide) m_448 (zrecv hK (hW 0 0 rfl (by decide)) rfl) ⟨Nat.le_of_ble_eq_true rfl, Nat.le_of_ble_eq_true rfl⟩ ⟨Nat.zero_le _, Nat.zero_le _⟩ rfl hl.1 rfl (Nat.le_of_ble_eq_true rfl) dX8_ofWiden_2 ?_
  refine zb_ne (tgt := 12) hx hb dX8_ofWiden_5 (by decide) (fun b1 => ?_) (fun b1 => ?_)
  · refine lv_aload_n hx hb dX8_ofWiden_12 rfl (lv_at hl 0 rfl) ?_
    refine zg5_3 X hK hW m_252 dX8_ofWiden_13 ?_
    refine lv_iload_n hx hb dX8_ofWiden_16 rfl (lv_at hl 1 rfl) ?_
    refine zr4 X hK hW (zhas_in hV.2.2.2.1 (by decide) b1) dX8_ofWiden_17 ?_
    refine lv_astore_n (lv' := [(2, .ref (ad 16 x.toNatClampNeg)), (0, .ref (ad 0 0)), (1, .int x)]) hx hb dX8_ofWiden_18 rfl hl (by decide) rfl (fun ls hl => ?_)
    refine lv_aload_n hx hb dX8_ofWiden_19 rfl (lv_at hl 0 rfl) ?_
    refine zg3_4 X hK hW (zvin (zhas_in hV.2.2.2.1 (by decide) b1)) m_223 dX8_ofWiden_20 ?_
    refine lv_if_ne (tgt := 43) hx hb dX8_ofWiden_23 (by decide) (fun b2 => ?_) (fun b2 => ?_)
    · refine lv_iconst (v := 1) hx hb dX8_ofWiden_43 (by decide) ?_
      refine lv_goto (tgt := 48) hx hb dX8_ofWiden_44 (by decide) ?_
      refine lv_istore_n (lv' := [(3, .int 1), (2, .ref (ad 16 x.toNatClampNeg)), (0, .ref (ad 0 0)), (1, .int x)]) hx hb dX8_ofWiden_48 rfl hl (by decide) rfl (fun ls hl => ?_)
      refine lv_iload_n hx hb dX8_ofWiden_49 rfl (lv_at hl 0 rfl) ?_
      refine lv_if_eq (tgt := 59) hx hb dX8_ofWiden_50 (by decide) (fun h => absurd h (by decide)) (fun _ => ?_)
      refine zgetE X hE (va_S.rf) 3 (by decide) rfl m_377 dX8_ofWiden_53 ?_
      refine lv_goto (tgt := 62) hx hb dX8_ofWiden_56 (by decide) ?_
      exact ze_a hx hb hr hlocks (by rw [r_X8_ofWiden, if_pos b1, if_pos b2]) dX8_ofWiden_62
    · refine lv_aload_n hx hb dX8_ofWiden_26 rfl (lv_at hl 0 rfl) ?_
      refine zg3_3 X hK hW (zvin (zhas_in hV.2.2.2.1 (by decide) b1)) m_220 dX8_ofWiden_27 ?_
      refine lv_bipush (v := 45) hx hb dX8_ofWiden_30 (by decide) ?_
      refine lv_icmp_ne (tgt := 43) hx hb dX8_ofWiden_32 (by decide) (fun b4 => ?_) (fun b4 => ?_)
      · refine lv_iconst (v := 1) hx hb dX8_ofWiden_43 (by decide) ?_
        refine lv_goto (tgt := 48) hx hb dX8_ofWiden_44 (by decide) ?_
        refine lv_istore_n (lv' := [(3, .int 1), (2, .ref (ad 16 x.toNatClampNeg)), (0, .ref (ad 0 0)), (1, .int x)]) hx hb dX8_ofWiden_48 rfl hl (by decide) rfl (fun ls hl => ?_)
        refine lv_iload_n hx hb dX8_ofWiden_49 rfl (lv_at hl 0 rfl) ?_
        refine lv_if_eq (tgt := 59) hx hb dX8_ofWiden_50 (by decide) (fun h => absurd h (by decide)) (fun _ => ?_)
        refine zgetE X hE (va_S.rf) 3 (by decide) rfl m_377 dX8_ofWiden_53 ?_
        refine lv_goto (tgt := 62) hx hb dX8_ofWiden_56 (by decide) ?_
        exact ze_a hx hb hr hlocks (by rw [r_X8_ofWiden, if_pos b1, if_neg (not_not_intro b2), if_pos b4]) dX8_ofWiden_62
      · refine lv_aload_n hx hb dX8_ofWiden_35 rfl (lv_at hl 0 rfl) ?_
        refine zg3_2 X hK hW (zvin (zhas_in hV.2.2.2.1 (by decide) b1)) m_217 dX8_ofWiden_36 ?_
        refine lv_iconst (v := 4) hx hb dX8_ofWiden_39 (by decide) ?_
        refine lv_icmp_lt (tgt := 47) hx hb dX8_ofWiden_40 (by decide) (fun b6 => ?_) (fun b6 => ?_)
        · refine lv_iconst (v := 0) hx hb dX8_ofWiden_47 (by decide) ?_
          refine lv_istore_n (lv' := [(3, .int 0), (2, .ref (ad 16 x.toNatClampNeg)), (0, .ref (ad 0 0)), (1, .int x)]) hx hb dX8_ofWiden_48 rfl hl (by decide) rfl (fun ls hl => ?_)
          refine lv_iload_n hx hb dX8_ofWiden_49 rfl (lv_at hl 0 rfl) ?_
          refine lv_if_eq (tgt := 59) hx hb dX8_ofWiden_50 (by decide) (fun _ => ?_) (fun h => absurd h (by decide))
          refine zgetE X hE (va_S.rf) 0 (by decide) rfl m_351 dX8_ofWiden_59 ?_
          exact ze_a hx hb hr hlocks (by rw [r_X8_ofWiden, if_pos b1, if_neg (not_not_intro b2), if_neg (not_not_intro b4), if_pos b6]) dX8_ofWiden_62
        · refine lv_iconst (v := 1) hx hb dX8_ofWiden_43 (by decide) ?_
          refine lv_goto (tgt := 48) hx hb dX8_ofWiden_44 (by decide) ?_
          refine lv_istore_n (lv' := [(3, .int 1), (2, .ref (ad 16 x.toNatClampNeg)), (0, .ref (ad 0 0)), (1, .int x)]) hx hb dX8_ofWiden_48 rfl hl (by decide) rfl (fun ls hl => ?_)
          refine lv_iload_n hx hb dX8_ofWiden_49 rfl (lv_at hl 0 rfl) ?_
          refine lv_if_eq (tgt := 59) hx hb dX8_ofWiden_50 (by decide) (fun h => absurd h (by decide)) (fun _ => ?_)
          refine zgetE X hE (va_S.rf) 3 (by decide) rfl m_377 dX8_ofWiden_53 ?_
          refine lv_goto (tgt := 62) hx hb dX8_ofWiden_56 (by decide) ?_
          exact ze_a hx hb hr hlocks (by rw [r_X8_ofWiden, if_pos b1, if_neg (not_not_intro b2), if_neg (not_not_intro b4), if_neg b6]) dX8_ofWiden_62
  · refine zgetE X hE (va_S.rf) 1 (by decide) rfl m_362 dX8_ofWiden_8 ?_
    exact ze_a hx hb hr hlocks (by rw [r_X8_ofWiden, if_neg (by simp [b1])]) dX8_ofWiden_11
def r_X8_ofTellCause (σ : zS) (x : Int32) (y : Int32) : Nat := if k_has σ 508 x = true then if y = 104 then if ¬ (zI σ 304 x.toNatClampNeg) = 0 then 3 else if ¬ (zI σ 301 x.toNatClampNeg) = (-1) then 0 else 3 else if ¬ y = 114 then if y = 108 then if ¬ (zI σ 304 x.toNatClampNeg) = 0 then 3 else 0 else if y = 99 then if ¬ (zI σ 304 x.toNatClampNeg) = 0 then 3 else 0 else if y = 115 then if ¬ (zI σ 304 x.toNatClampNeg) = 0 then 3 else 0 else 2 else if ¬ (zI σ 304 x.toNatClampNeg) = 0 then 3 else if ¬ (zI σ 301 x.toNatClampNeg) = (-1) then 0 else 3 else 1
theorem r_X8_ofTellCause_lt (σ : zS) (x : Int32) (y : Int32) : r_X8_ofTellCause σ x y < 5 := by
  unfold r_X8_ofTellCause
  (repeat' split) <;> first | decide
theorem zmX8_ofTellCause : zmS yX8_ofTellCause RX8 cX8_ofTellCause 5 (some (.object "Silkloft$Refusal")) 3 := ⟨m_453, m_9, m_454, rfl, by decide, by decide, by decide +kernel⟩
set_option maxRecDepth 100000 in
set_option maxHeartbeats 4000000 in
theorem ctX8_ofTellCause (l : Launch) (D : va_G) (cy : Nat → ClassId) (rf : Nat → Nat) (ad : Nat → Nat → Nat) (σ : zS) (x : Int32) (y : Int32) (hV : zV σ) : Met l yX8_ofTellCause (zw yX8_ofTellCause cX8_ofTellCause 5 (some (.object "Silkloft$Refusal"))) (zrm 1) (va_Pc [.ref (ad 0 0), .int x, .int y] (zBE D cy rf (zW D cy ad zsL σ))) (zqR (.ref (rf (r_X8_ofTellCause σ x y)))) 0 0 (fun _ => False) := by
  refine zmet (by decide) rfl (Nat.le_of_ble_eq_true rfl) rfl (fun p e s m below meth c ls X hml hr hlocks hv hl => ?_)
  obtain ⟨hK, hE, hW⟩ := hv
  obtain ⟨hx, hb, -, -⟩ := id X
  have hl : lv_has ls 5 [(0, .ref (ad 0 0)), (1, .int x), (2, .int y)] := hl
  refine lv_aload_n hx hb dX8_ofTellCause_0 rfl (lv_at hl 0 rfl) ?_
  refine lv_iload_n hx hb dX8_ofTellCause_1 rfl (lv_at hl 1 rfl) ?_
  refine zcallRV (As := [.int x]) (rest := []) X hml hK hW (ctX5_hasFinding l D cy ad σ x) zmX5_hasFinding (by decide) m_448 (zrecv hK (hW 0 0 rfl (by decide)) rfl) ⟨Nat.le_of_ble_eq_true rfl, Nat.le_of_ble_eq_true rfl⟩ ⟨Nat.zero_le _, Nat.zero_le _⟩ rfl hl.1 rfl (Nat.le_of_ble_eq_true rfl) dX8_ofTellCause_2 ?_
  refine zb_ne (tgt := 12) hx hb dX8_ofTellCause_5 (by decide) (fun b1 => ?_) (fun b1 => ?_)
  · refine lv_iload_n hx hb dX8_ofTellCause_12 rfl (lv_at hl 2 rfl) ?_
    refine lv_bipush (v := 104) hx hb dX8_ofTellCause_13 (by decide) ?_
    refine lv_icmp_eq (tgt := 24) hx hb dX8_ofTellCause_15 (by decide) (fun b2 => ?_) (fun b2 => ?_)
    · refine lv_iconst (v := 1) hx hb dX8_ofTellCause_24 (by decide) ?_
      refine lv_goto (tgt := 29) hx hb dX8_ofTellCause_25 (by decide) ?_
      refine lv_istore_n (lv' := [(3, .int 1), (0, .ref (ad 0 0)), (1, .int x), (2, .int y)]) hx hb dX8_ofTellCause_29 rfl hl (by decide) rfl (fun ls hl => ?_)
      refine lv_iload_n hx hb dX8_ofTellCause_30 rfl (lv_at hl 0 rfl) ?_
      refine lv_if_ne (tgt := 56) hx hb dX8_ofTellCause_31 (by decide) (fun _ => ?_) (fun h => absurd h (by decide))
      refine lv_aload_n hx hb dX8_ofTellCause_56 rfl (lv_at hl 1 rfl) ?_
      refine zg5_3 X hK hW m_252 dX8_ofTellCause_57 ?_
      refine lv_iload_n hx hb dX8_ofTellCause_60 rfl (lv_at hl 2 rfl) ?_
      refine zr4 X hK hW (zhas_in hV.2.2.2.1 (by decide) b1) dX8_ofTellCause_61 ?_
      refine lv_astore (lv' := [(4, .ref (ad 16 x.toNatClampNeg)), (3, .int 1), (0, .ref (ad 0 0)), (1, .int x), (2, .int y)]) hx hb dX8_ofTellCause_62 hl (by decide) rfl (fun ls hl => ?_)
      refine lv_aload hx hb dX8_ofTellCause_64 (lv_at hl 0 rfl) ?_
      refine zg3_4 X hK hW (zvin (zhas_in hV.2.2.2.1 (by decide) b1)) m_223 dX8_ofTellCause_66 ?_
      refine lv_if_ne (tgt := 85) hx hb dX8_ofTellCause_69 (by decide) (fun b4 => ?_) (fun b4 => ?_)
      · refine zgetE X hE (va_S.rf) 3 (by decide) rfl m_377 dX8_ofTellCause_85 ?_
        exact ze_a hx hb hr hlocks (by rw [r_X8_ofTellCause, if_pos b1, if_pos b2, if_pos b4]) dX8_ofTellCause_88
      · refine lv_iload_n hx hb dX8_ofTellCause_72 rfl (lv_at hl 1 rfl) ?_
        refine lv_if_eq (tgt := 89) hx hb dX8_ofTellCause_73 (by decide) (fun h => absurd h (by decide)) (fun _ => ?_)
        refine lv_aload hx hb dX8_ofTellCause_76 (lv_at hl 0 rfl) ?_
        refine zg3_1 X hK hW (zvin (zhas_in hV.2.2.2.1 (by decide) b1)) m_214 dX8_ofTellCause_78 ?_
        refine lv_iconst (v := (-1)) hx hb dX8_ofTellCause_81 (by decide) ?_
        refine lv_icmp_ne (tgt := 89) hx hb dX8_ofTellCause_82 (by decide) (fun b6 => ?_) (fun b6 => ?_)
        · refine zgetE X hE (va_S.rf) 0 (by decide) rfl m_351 dX8_ofTellCause_89 ?_
          exact ze_a hx hb hr hlocks (by rw [r_X8_ofTellCause, if_pos b1, if_pos b2, if_neg (not_not_intro b4), if_pos b6]) dX8_ofTellCause_92
        · refine zgetE X hE (va_S.rf) 3 (by decide) rfl m_377 dX8_ofTellCause_85 ?_
          exact ze_a hx hb hr hlocks (by rw [r_X8_ofTellCause, if_pos b1, if_pos b2, if_neg (not_not_intro b4), if_neg (not_not_intro b6)]) dX8_ofTellCause_88
    · refine lv_iload_n hx hb dX8_ofTellCause_18 rfl (lv_at hl 2 rfl) ?_
      refine lv_bipush (v := 114) hx hb dX8_ofTellCause_19 (by decide) ?_
      refine lv_icmp_ne (tgt := 28) hx hb dX8_ofTellCause_21 (by decide) (fun b7 => ?_) (fun b7 => ?_)
      · refine lv_iconst (v := 0) hx hb dX8_ofTellCause_28 (by decide) ?_
        refine lv_istore_n (lv' := [(3, .int 0), (0, .ref (ad 0 0)), (1, .int x), (2, .int y)]) hx hb dX8_ofTellCause_29 rfl hl (by decide) rfl (fun ls hl => ?_)
        refine lv_iload_n hx hb dX8_ofTellCause_30 rfl (lv_at hl 0 rfl) ?_
        refine lv_if_ne (tgt := 56) hx hb dX8_ofTellCause_31 (by decide) (fun h => absurd h (by decide)) (fun _ => ?_)
        refine lv_iload_n hx hb dX8_ofTellCause_34 rfl (lv_at hl 3 rfl) ?_
        refine lv_bipush (v := 108) hx hb dX8_ofTellCause_35 (by decide) ?_
        refine lv_icmp_eq (tgt := 56) hx hb dX8_ofTellCause_37 (by decide) (fun b9 => ?_) (fun b9 => ?_)
        · refine lv_aload_n hx hb dX8_ofTellCause_56 rfl (lv_at hl 1 rfl) ?_
          refine zg5_3 X hK hW m_252 dX8_ofTellCause_57 ?_
          refine lv_iload_n hx hb dX8_ofTellCause_60 rfl (lv_at hl 2 rfl) ?_
          refine zr4 X hK hW (zhas_in hV.2.2.2.1 (by decide) b1) dX8_ofTellCause_61 ?_
          refine lv_astore (lv' := [(4, .ref (ad 16 x.toNatClampNeg)), (3, .int 0), (0, .ref (ad 0 0)), (1, .int x), (2, .int y)]) hx hb dX8_ofTellCause_62 hl (by decide) rfl (fun ls hl => ?_)
          refine lv_aload hx hb dX8_ofTellCause_64 (lv_at hl 0 rfl) ?_
          refine zg3_4 X hK hW (zvin (zhas_in hV.2.2.2.1 (by decide) b1)) m_223 dX8_ofTellCause_66 ?_
          refine lv_if_ne (tgt := 85) hx hb dX8_ofTellCause_69 (by decide) (fun b10 => ?_) (fun b10 => ?_)
          · refine zgetE X hE (va_S.rf) 3 (by decide) rfl m_377 dX8_ofTellCause_85 ?_
            exact ze_a hx hb hr hlocks (by rw [r_X8_ofTellCause, if_pos b1, if_neg b2, if_pos b7, if_pos b9, if_pos b10]) dX8_ofTellCause_88
          · refine lv_iload_n hx hb dX8_ofTellCause_72 rfl (lv_at hl 1 rfl) ?_
            refine lv_if_eq (tgt := 89) hx hb dX8_ofTellCause_73 (by decide) (fun _ => ?_) (fun h => absurd h (by decide))
            refine zgetE X hE (va_S.rf) 0 (by decide) rfl m_351 dX8_ofTellCause_89 ?_
            exact ze_a hx hb hr hlocks (by rw [r_X8_ofTellCause, if_pos b1, if_neg b2, if_pos b7, if_pos b9, if_neg (not_not_intro b10)]) dX8_ofTellCause_92
        · refine lv_iload_n hx hb dX8_ofTellCause_40 rfl (lv_at hl 3 rfl) ?_
          refine lv_bipush (v := 99) hx hb dX8_ofTellCause_41 (by decide) ?_
          refine lv_icmp_eq (tgt := 56) hx hb dX8_ofTellCause_43 (by decide) (fun b12 => ?_) (fun b12 => ?_)
          · refine lv_aload_n hx hb dX8_ofTellCause_56 rfl (lv_at hl 1 rfl) ?_
            refine zg5_3 X hK hW m_252 dX8_ofTellCause_57 ?_
            refine lv_iload_n hx hb dX8_ofTellCause_60 rfl (lv_at hl 2 rfl) ?_
            refine zr4 X hK hW (zhas_in hV.2.2.2.1 (by decide) b1) dX8_ofTellCause_61 ?_
            refine lv_astore (lv' := [(4, .ref (ad 16 x.toNatClampNeg)), (3, .int 0), (0, .ref (ad 0 0)), (1, .int x), (2, .int y)]) hx hb dX8_ofTellCause_62 hl (by decide) rfl (fun ls hl => ?_)
            refine lv_aload hx hb dX8_ofTellCause_64 (lv_at hl 0 rfl) ?_
            refine zg3_4 X hK hW (zvin (zhas_in hV.2.2.2.1 (by decide) b1)) m_223 dX8_ofTellCause_66 ?_
            refine lv_if_ne (tgt := 85) hx hb dX8_ofTellCause_69 (by decide) (fun b13 => ?_) (fun b13 => ?_)
            · refine zgetE X hE (va_S.rf) 3 (by decide) rfl m_377 dX8_ofTellCause_85 ?_
              exact ze_a hx hb hr hlocks (by rw [r_X8_ofTellCause, if_pos b1, if_neg b2, if_pos b7, if_neg b9, if_pos b12, if_pos b13]) dX8_ofTellCause_88
            · refine lv_iload_n hx hb dX8_ofTellCause_72 rfl (lv_at hl 1 rfl) ?_
              refine lv_if_eq (tgt := 89) hx hb dX8_ofTellCause_73 (by decide) (fun _ => ?_) (fun h => absurd h (by decide))
              refine zgetE X hE (va_S.rf) 0 (by decide) rfl m_351 dX8_ofTellCause_89 ?_
              exact ze_a hx hb hr hlocks (by rw [r_X8_ofTellCause, if_pos b1, if_neg b2, if_pos b7, if_neg b9, if_pos b12, if_neg (not_not_intro b13)]) dX8_ofTellCause_92
          · refine lv_iload_n hx hb dX8_ofTellCause_46 rfl (lv_at hl 3 rfl) ?_
            refine lv_bipush (v := 115) hx hb dX8_ofTellCause_47 (by decide) ?_
            refine lv_icmp_eq (tgt := 56) hx hb dX8_ofTellCause_49 (by decide) (fun b15 => ?_) (fun b15 => ?_)
            · refine lv_aload_n hx hb dX8_ofTellCause_56 rfl (lv_at hl 1 rfl) ?_
              refine zg5_3 X hK hW m_252 dX8_ofTellCause_57 ?_
              refine lv_iload_n hx hb dX8_ofTellCause_60 rfl (lv_at hl 2 rfl) ?_
              refine zr4 X hK hW (zhas_in hV.2.2.2.1 (by decide) b1) dX8_ofTellCause_61 ?_
              refine lv_astore (lv' := [(4, .ref (ad 16 x.toNatClampNeg)), (3, .int 0), (0, .ref (ad 0 0)), (1, .int x), (2, .int y)]) hx hb dX8_ofTellCause_62 hl (by decide) rfl (fun ls hl => ?_)
              refine lv_aload hx hb dX8_ofTellCause_64 (lv_at hl 0 rfl) ?_
              refine zg3_4 X hK hW (zvin (zhas_in hV.2.2.2.1 (by decide) b1)) m_223 dX8_ofTellCause_66 ?_
              refine lv_if_ne (tgt := 85) hx hb dX8_ofTellCause_69 (by decide) (fun b16 => ?_) (fun b16 => ?_)
              · refine zgetE X hE (va_S.rf) 3 (by decide) rfl m_377 dX8_ofTellCause_85 ?_
                exact ze_a hx hb hr hlocks (by rw [r_X8_ofTellCause, if_pos b1, if_neg b2, if_pos b7, if_neg b9, if_neg b12, if_pos b15, if_pos b16]) dX8_ofTellCause_88
              · refine lv_iload_n hx hb dX8_ofTellCause_72 rfl (lv_at hl 1 rfl) ?_
                refine lv_if_eq (tgt := 89) hx hb dX8_ofTellCause_73 (by decide) (fun _ => ?_) (fun h => absurd h (by decide))
                refine zgetE X hE (va_S.rf) 0 (by decide) rfl m_351 dX8_ofTellCause_89 ?_
                exact ze_a hx hb hr hlocks (by rw [r_X8_ofTellCause, if_pos b1, if_neg b2, if_pos b7, if_neg b9, if_neg b12, if_pos b15, if_neg (not_not_intro b16)]) dX8_ofTellCause_92
            · refine zgetE X hE (va_S.rf) 2 (by decide) rfl m_349 dX8_ofTellCause_52 ?_
              exact ze_a hx hb hr hlocks (by rw [r_X8_ofTellCause, if_pos b1, if_neg b2, if_pos b7, if_neg b9, if_neg b12, if_neg b15]) dX8_ofTellCause_55
      · refine lv_iconst (v := 1) hx hb dX8_ofTellCause_24 (by decide) ?_
        refine lv_goto (tgt := 29) hx hb dX8_ofTellCause_25 (by decide) ?_
        refine lv_istore_n (lv' := [(3, .int 1), (0, .ref (ad 0 0)), (1, .int x), (2, .int y)]) hx hb dX8_ofTellCause_29 rfl hl (by decide) rfl (fun ls hl => ?_)
        refine lv_iload_n hx hb dX8_ofTellCause_30 rfl (lv_at hl 0 rfl) ?_
        refine lv_if_ne (tgt := 56) hx hb dX8_ofTellCause_31 (by decide) (fun _ => ?_) (fun h => absurd h (by decide))
        refine lv_aload_n hx hb dX8_ofTellCause_56 rfl (lv_at hl 1 rfl) ?_
        refine zg5_3 X hK hW m_252 dX8_ofTellCause_57 ?_
        refine lv_iload_n hx hb dX8_ofTellCause_60 rfl (lv_at hl 2 rfl) ?_
        refine zr4 X hK hW (zhas_in hV.2.2.2.1 (by decide) b1) dX8_ofTellCause_61 ?_
        refine lv_astore (lv' := [(4, .ref (ad 16 x.toNatClampNeg)), (3, .int 1), (0, .ref (ad 0 0)), (1, .int x), (2, .int y)]) hx hb dX8_ofTellCause_62 hl (by decide) rfl (fun ls hl => ?_)
        refine lv_aload hx hb dX8_ofTellCause_64 (lv_at hl 0 rfl) ?_
        refine zg3_4 X hK hW (zvin (zhas_in hV.2.2.2.1 (by decide) b1)) m_223 dX8_ofTellCause_66 ?_
        refine lv_if_ne (tgt := 85) hx hb dX8_ofTellCause_69 (by decide) (fun b19 => ?_) (fun b19 => ?_)
        · refine zgetE X hE (va_S.rf) 3 (by decide) rfl m_377 dX8_ofTellCause_85 ?_
          exact ze_a hx hb hr hlocks (by rw [r_X8_ofTellCause, if_pos b1, if_neg b2, if_neg (not_not_intro b7), if_pos b19]) dX8_ofTellCause_88
        · refine lv_iload_n hx hb dX8_ofTellCause_72 rfl (lv_at hl 1 rfl) ?_
          refine lv_if_eq (tgt := 89) hx hb dX8_ofTellCause_73 (by decide) (fun h => absurd h (by decide)) (fun _ => ?_)
          refine lv_aload hx hb dX8_ofTellCause_76 (lv_at hl 0 rfl) ?_
          refine zg3_1 X hK hW (zvin (zhas_in hV.2.2.2.1 (by decide) b1)) m_214 dX8_ofTellCause_78 ?_
          refine lv_iconst (v := (-1)) hx hb dX8_ofTellCause_81 (by decide) ?_
          refine lv_icmp_ne (tgt := 89) hx hb dX8_ofTellCause_82 (by decide) (fun b21 => ?_) (fun b21 => ?_)
          · refine zgetE X hE (va_S.rf) 0 (by decide) rfl m_351 dX8_ofTellCause_89 ?_
            exact ze_a hx hb hr hlocks (by rw [r_X8_ofTellCause, if_pos b1, if_neg b2, if_neg (not_not_intro b7), if_neg (not_not_intro b19), if_pos b21]) dX8_ofTellCause_92
          · refine zgetE X hE (va_S.rf) 3 (by decide) rfl m_377 dX8_ofTellCause_85 ?_
            exact ze_a hx hb hr hlocks (by rw [r_X8_ofTellCause, if_pos b1, if_neg b2, if_neg (not_not_intro b7), if_neg (not_not_intro b19), if_neg (not_not_intro b21)]) dX8_ofTellCause_88
  · refine zgetE X hE (va_S.rf) 1 (by decide) rfl m_362 dX8_ofTellCause_8 ?_
    exact ze_a hx hb hr hlocks (by rw [r_X8_ofTellCause, if_neg (by simp [b1])]) dX8_ofTellCause_11
def r_X8_ofRepair (σ : zS) (x : Int32) (y : Int32) : Nat := if k_has σ 506 x = false then 1 else if k_has σ 505 y = true then if (zI σ 105 x.toNatClampNeg) = 111 then if k_may σ y.toNatClampNeg 5 (zI σ 509 0) = false then 2 else 0 else 3 else 1
theorem r_X8_ofRepair_lt (σ : zS) (x : Int32) (y : Int32) : r_X8_ofRepair σ x y < 5 := by
  unfold r_X8_ofRepair
  (repeat' split) <;> first | decide
theorem zmX8_ofRepair : zmS yX8_ofRepair RX8 cX8_ofRepair 3 (some (.object "Silkloft$Refusal")) 3 := ⟨m_456, m_9, m_457, rfl, by decide, by decide, by decide +kernel⟩
set_option maxRecDepth 100000 in
set_option maxHeartbeats 4000000 in
theorem ctX8_ofRepair (l : Launch) (D : va_G) (cy : Nat → ClassId) (rf : Nat → Nat) (ad : Nat → Nat → Nat) (σ : zS) (x : Int32) (y : Int32) (hV : zV σ) : Met l yX8_ofRepair (zw yX8_ofRepair cX8_ofRepair 3 (some (.object "Silkloft$Refusal"))) (zrm 1) (va_Pc [.ref (ad 0 0), .int x, .int y] (zBE D cy rf (zW D cy ad zsL σ))) (zqR (.ref (rf (r_X8_ofRepair σ x y)))) 0 0 (fun _ => False) := by
  refine zmet (by decide) rfl (Nat.le_of_ble_eq_true rfl) rfl (fun p e s m below meth c ls X hml hr hlocks hv hl => ?_)
  obtain ⟨hK, hE, hW⟩ := hv
  obtain ⟨hx, hb, -, -⟩ := id X
  have hl : lv_has ls 3 [(0, .ref (ad 0 0)), (1, .int x), (2, .int y)] := hl
  refine lv_aload_n hx hb dX8_ofRepair_0 rfl (lv_at hl 0 rfl) ?_
  refine lv_iload_n hx hb dX8_ofRepair_1 rfl (lv_at hl 1 rfl) ?_
  refine zcallRV (As := [.int x]) (rest := []) X hml hK hW (ctX5_hasCanopy l D cy ad σ x) zmX5_hasCanopy (by decide) m_373 (zrecv hK (hW 0 0 rfl (by decide)) rfl) ⟨Nat.le_of_ble_eq_true rfl, Nat.le_of_ble_eq_true rfl⟩ ⟨Nat.zero_le _, Nat.zero_le _⟩ rfl hl.1 rfl (Nat.le_of_ble_eq_true rfl) dX8_ofRepair_2 ?_
  refine zb_eq (tgt := 16) hx hb dX8_ofRepair_5 (by decide) (fun b1 => ?_) (fun b1 => ?_)
  · refine zgetE X hE (va_S.rf) 1 (by decide) rfl m_362 dX8_ofRepair_16 ?_
    exact ze_a hx hb hr hlocks (by rw [r_X8_ofRepair, if_pos b1]) dX8_ofRepair_19
  · refine lv_aload_n hx hb dX8_ofRepair_8 rfl (lv_at hl 0 rfl) ?_
    refine lv_iload_n hx hb dX8_ofRepair_9 rfl (lv_at hl 2 rfl) ?_
    refine zcallRV (As := [.int y]) (rest := []) X hml hK hW (ctX5_hasRigger l D cy ad σ y) zmX5_hasRigger (by decide) m_358 (zrecv hK (hW 0 0 rfl (by decide)) rfl) ⟨Nat.le_of_ble_eq_true rfl, Nat.le_of_ble_eq_true rfl⟩ ⟨Nat.zero_le _, Nat.zero_le _⟩ rfl hl.1 rfl (Nat.le_of_ble_eq_true rfl) dX8_ofRepair_10 ?_
    refine zb_ne (tgt := 20) hx hb dX8_ofRepair_13 (by decide) (fun b2 => ?_) (fun b2 => ?_)
    · refine lv_aload_n hx hb dX8_ofRepair_20 rfl (lv_at hl 0 rfl) ?_
      refine zg5_1 X hK hW m_247 dX8_ofRepair_21 ?_
      refine lv_iload_n hx hb dX8_ofRepair_24 rfl (lv_at hl 1 rfl) ?_
      refine zr2 X hK hW (zhas_in hV.2.1 (by decide) b1) dX8_ofRepair_25 ?_
      refine zg1_5 X hK hW (zvin (zhas_in hV.2.1 (by decide) b1)) m_106 dX8_ofRepair_26 ?_
      refine lv_bipush (v := 111) hx hb dX8_ofRepair_29 (by decide) ?_
      refine lv_icmp_eq (tgt := 38) hx hb dX8_ofRepair_31 (by decide) (fun b3 => ?_) (fun b3 => ?_)
      · refine lv_aload_n hx hb dX8_ofRepair_38 rfl (lv_at hl 0 rfl) ?_
        refine zg5_0 X hK hW m_245 dX8_ofRepair_39 ?_
        refine lv_iload_n hx hb dX8_ofRepair_42 rfl (lv_at hl 2 rfl) ?_
        refine zr1 X hK hW (zhas_in hV.1 (by decide) b2) dX8_ofRepair_43 ?_
        refine lv_iconst (v := 5) hx hb dX8_ofRepair_44 (by decide) ?_
        refine lv_aload_n hx hb dX8_ofRepair_45 rfl (lv_at hl 0 rfl) ?_
        refine zg5_9 X hK hW m_265 dX8_ofRepair_46 ?_
        refine zcallRV (As := [.int 5, .int (zI σ 509 0)]) (rest := []) X hml hK hW (ctX7_may l D cy ad σ y.toNatClampNeg (zvin (zhas_in hV.1 (by decide) b2)) 5 (zI σ 509 0)) zmX7_may (by decide) m_386 (zrecv hK (hW 10 y.toNatClampNeg rfl (zvin (zhas_in hV.1 (by decide) b2))) rfl) ⟨Nat.le_of_ble_eq_true rfl, Nat.le_of_ble_eq_true rfl⟩ ⟨Nat.zero_le _, Nat.zero_le _⟩ rfl hl.1 rfl (Nat.le_of_ble_eq_true rfl) dX8_ofRepair_49 ?_
        refine zb_eq (tgt := 61) hx hb dX8_ofRepair_52 (by decide) (fun b4 => ?_) (fun b4 => ?_)
        · refine zgetE X hE (va_S.rf) 2 (by decide) rfl m_349 dX8_ofRepair_61 ?_
          exact ze_a hx hb hr hlocks (by rw [r_X8_ofRepair, if_neg (by simp [b1]), if_pos b2, if_pos b3, if_pos b4]) dX8_ofRepair_64
        · refine zgetE X hE (va_S.rf) 0 (by decide) rfl m_351 dX8_ofRepair_55 ?_
          refine lv_goto (tgt := 64) hx hb dX8_ofRepair_58 (by decide) ?_
          exact ze_a hx hb hr hlocks (by rw [r_X8_ofRepair, if_neg (by simp [b1]), if_pos b2, if_pos b3, if_neg (by simp [b4])]) dX8_ofRepair_64
      · refine zgetE X hE (va_S.rf) 3 (by decide) rfl m_377 dX8_ofRepair_34 ?_
        exact ze_a hx hb hr hlocks (by rw [r_X8_ofRepair, if_neg (by simp [b1]), if_pos b2, if_neg b3]) dX8_ofRepair_37
    · refine zgetE X hE (va_S.rf) 1 (by decide) rfl m_362 dX8_ofRepair_16 ?_
      exact ze_a hx hb hr hlocks (by rw [r_X8_ofRepair, if_neg (by simp [b1]), if_neg (by simp [b2])]) dX8_ofRepair_19
def r_X8_ofHire (σ : zS) (x : Int32) (y : Int32) (z : Int32) : Nat := if k_has σ 506 x = true then if k_in y 1 30 = false then 2 else if k_in z 0 999 = true then if ¬ (zI σ 105 x.toNatClampNeg) = 107 then 3 else if k_fit σ x.toNatClampNeg = false then 3 else 0 else 2 else 1
theorem r_X8_ofHire_lt (σ : zS) (x : Int32) (y : Int32) (z : Int32) : r_X8_ofHire σ x y z < 5 := by
  unfold r_X8_ofHire
  (repeat' split) <;> first | decide
theorem zmX8_ofHire : zmS yX8_ofHire RX8 cX8_ofHire 5 (some (.object "Silkloft$Refusal")) 4 := ⟨m_459, m_9, m_460, rfl, by decide, by decide, by decide +kernel⟩
set_option maxRecDepth 100000 in
set_option maxHeartbeats 4000000 in
theorem ctX8_ofHire (l : Launch) (D : va_G) (cy : Nat → ClassId) (rf : Nat → Nat) (ad : Nat → Nat → Nat) (σ : zS) (x : Int32) (y : Int32) (z : Int32) (hV : zV σ) : Met l yX8_ofHire (zw yX8_ofHire cX8_ofHire 5 (some (.object "Silkloft$Refusal"))) (zrm 5) (va_Pc [.ref (ad 0 0), .int x, .int y, .int z] (zBE D cy rf (zW D cy ad zsL σ))) (zqR (.ref (rf (r_X8_ofHire σ x y z)))) 0 0 (fun _ => False) := by
  refine zmet (by decide) rfl (Nat.le_of_ble_eq_true rfl) rfl (fun p e s m below meth c ls X hml hr hlocks hv hl => ?_)
  obtain ⟨hK, hE, hW⟩ := hv
  obtain ⟨hx, hb, -, -⟩ := id X
  have hl : lv_has ls 5 [(0, .ref (ad 0 0)), (1, .int x), (2, .int y), (3, .int z)] := hl
  refine lv_aload_n hx hb dX8_ofHire_0 rfl (lv_at hl 0 rfl) ?_
  refine lv_iload_n hx hb dX8_ofHire_1 rfl (lv_at hl 1 rfl) ?_
  refine zcallRV (As := [.int x]) (rest := []) X hml hK hW (ctX5_hasCanopy l D cy ad σ x) zmX5_hasCanopy (by decide) m_373 (zrecv hK (hW 0 0 rfl (by decide)) rfl) ⟨Nat.le_of_ble_eq_true rfl, Nat.le_of_ble_eq_true rfl⟩ ⟨Nat.zero_le _, Nat.zero_le _⟩ rfl hl.1 rfl (Nat.le_of_ble_eq_true rfl) dX8_ofHire_2 ?_
  refine zb_ne (tgt := 12) hx hb dX8_ofHire_5 (by decide) (fun b1 => ?_) (fun b1 => ?_)
  · refine lv_iload_n hx hb dX8_ofHire_12 rfl (lv_at hl 2 rfl) ?_
    refine lv_iconst (v := 1) hx hb dX8_ofHire_13 (by decide) ?_
    refine lv_bipush (v := 30) hx hb dX8_ofHire_14 (by decide) ?_
    refine zcallRS (As := [.int y, .int 1, .int 30]) (rest := []) X hml hK trivial (ctX8_isIn l D cy y 1 30) zmX8_isIn (by decide) m_346 ⟨Nat.le_of_ble_eq_true rfl, Nat.le_of_ble_eq_true rfl⟩ ⟨Nat.zero_le _, Nat.zero_le _⟩ rfl hl.1 rfl (Nat.le_of_ble_eq_true rfl) dX8_ofHire_16 ?_
    refine zb_eq (tgt := 33) hx hb dX8_ofHire_19 (by decide) (fun b2 => ?_) (fun b2 => ?_)
    · refine zgetE X hE (va_S.rf) 2 (by decide) rfl m_349 dX8_ofHire_33 ?_
      exact ze_a hx hb hr hlocks (by rw [r_X8_ofHire, if_pos b1, if_pos b2]) dX8_ofHire_36
    · refine lv_iload_n hx hb dX8_ofHire_22 rfl (lv_at hl 3 rfl) ?_
      refine lv_iconst (v := 0) hx hb dX8_ofHire_23 (by decide) ?_
      refine lv_sipush (v := 999) hx hb dX8_ofHire_24 (by decide) ?_
      refine zcallRS (As := [.int z, .int 0, .int 999]) (rest := []) X hml hK trivial (ctX8_isIn l D cy z 0 999) zmX8_isIn (by decide) m_346 ⟨Nat.le_of_ble_eq_true rfl, Nat.le_of_ble_eq_true rfl⟩ ⟨Nat.zero_le _, Nat.zero_le _⟩ rfl hl.1 rfl (Nat.le_of_ble_eq_true rfl) dX8_ofHire_27 ?_
      refine zb_ne (tgt := 37) hx hb dX8_ofHire_30 (by decide) (fun b3 => ?_) (fun b3 => ?_)
      · refine lv_aload_n hx hb dX8_ofHire_37 rfl (lv_at hl 0 rfl) ?_
        refine zg5_1 X hK hW m_247 dX8_ofHire_38 ?_
        refine lv_iload_n hx hb dX8_ofHire_41 rfl (lv_at hl 1 rfl) ?_
        refine zr2 X hK hW (zhas_in hV.2.1 (by decide) b1) dX8_ofHire_42 ?_
        refine zg1_5 X hK hW (zvin (zhas_in hV.2.1 (by decide) b1)) m_106 dX8_ofHire_43 ?_
        refine lv_bipush (v := 107) hx hb dX8_ofHire_46 (by decide) ?_
        refine lv_icmp_ne (tgt := 63) hx hb dX8_ofHire_48 (by decide) (fun b4 => ?_) (fun b4 => ?_)
        · refine lv_iconst (v := 0) hx hb dX8_ofHire_63 (by decide) ?_
          refine lv_istore (lv' := [(4, .int 0), (0, .ref (ad 0 0)), (1, .int x), (2, .int y), (3, .int z)]) hx hb dX8_ofHire_64 hl (by decide) rfl (fun ls hl => ?_)
          refine lv_iload hx hb dX8_ofHire_66 (lv_at hl 0 rfl) ?_
          refine lv_if_eq (tgt := 77) hx hb dX8_ofHire_68 (by decide) (fun _ => ?_) (fun h => absurd h (by decide))
          refine zgetE X hE (va_S.rf) 3 (by decide) rfl m_377 dX8_ofHire_77 ?_
          exact ze_a hx hb hr hlocks (by rw [r_X8_ofHire, if_pos b1, if_neg (by simp [b2]), if_pos b3, if_pos b4]) dX8_ofHire_80
        · refine lv_aload_n hx hb dX8_ofHire_51 rfl (lv_at hl 0 rfl) ?_
          refine lv_iload_n hx hb dX8_ofHire_52 rfl (lv_at hl 1 rfl) ?_
          refine zcallRV (As := [.int x]) (rest := []) X hml hK hW (ctX5_isFitToJump_x l D cy ad σ x (zhas_in hV.2.1 (by decide) b1) hV) zmX5_isFitToJump (by decide) m_400 (zrecv hK (hW 0 0 rfl (by decide)) rfl) ⟨Nat.le_of_ble_eq_true rfl, Nat.le_of_ble_eq_true rfl⟩ ⟨Nat.zero_le _, Nat.zero_le _⟩ rfl hl.1 rfl (Nat.le_of_ble_eq_true rfl) dX8_ofHire_53 ?_
          refine zb_eq (tgt := 63) hx hb dX8_ofHire_56 (by decide) (fun b6 => ?_) (fun b6 => ?_)
          · refine lv_iconst (v := 0) hx hb dX8_ofHire_63 (by decide) ?_
            refine lv_istore (lv' := [(4, .int 0), (0, .ref (ad 0 0)), (1, .int x), (2, .int y), (3, .int z)]) hx hb dX8_ofHire_64 hl (by decide) rfl (fun ls hl => ?_)
            refine lv_iload hx hb dX8_ofHire_66 (lv_at hl 0 rfl) ?_
            refine lv_if_eq (tgt := 77) hx hb dX8_ofHire_68 (by decide) (fun _ => ?_) (fun h => absurd h (by decide))
            refine zgetE X hE (va_S.rf) 3 (by decide) rfl m_377 dX8_ofHire_77 ?_
            exact ze_a hx hb hr hlocks (by rw [r_X8_ofHire, if_pos b1, if_neg (by simp [b2]), if_pos b3, if_neg (not_not_intro b4), if_pos b6]) dX8_ofHire_80
          · refine lv_iconst (v := 1) hx hb dX8_ofHire_59 (by decide) ?_
            refine lv_goto (tgt := 64) hx hb dX8_ofHire_60 (by decide) ?_
            refine lv_istore (lv' := [(4, .int 1), (0, .ref (ad 0 0)), (1, .int x), (2, .int y), (3, .int z)]) hx hb dX8_ofHire_64 hl (by decide) rfl (fun ls hl => ?_)
            refine lv_iload hx hb dX8_ofHire_66 (lv_at hl 0 rfl) ?_
            refine lv_if_eq (tgt := 77) hx hb dX8_ofHire_68 (by decide) (fun h => absurd h (by decide)) (fun _ => ?_)
            refine zgetE X hE (va_S.rf) 0 (by decide) rfl m_351 dX8_ofHire_71 ?_
            refine lv_goto (tgt := 80) hx hb dX8_ofHire_74 (by decide) ?_
            exact ze_a hx hb hr hlocks (by rw [r_X8_ofHire, if_pos b1, if_neg (by simp [b2]), if_pos b3, if_neg (not_not_intro b4), if_neg (by simp [b6])]) dX8_ofHire_80
      · refine zgetE X hE (va_S.rf) 2 (by decide) rfl m_349 dX8_ofHire_33 ?_
        exact ze_a hx hb hr hlocks (by rw [r_X8_ofHire, if_pos b1, if_neg (by simp [b2]), if_neg (by simp [b3])]) dX8_ofHire_36
  · refine zgetE X hE (va_S.rf) 1 (by decide) rfl m_362 dX8_ofHire_8 ?_
    exact ze_a hx hb hr hlocks (by rw [r_X8_ofHire, if_neg (by simp [b1])]) dX8_ofHire_11
theorem zleave_has {σ : zS} {x : Int32} (h : r_X8_ofLeave σ x = 0) : k_has σ 507 x = true := by
  cases hk : k_has σ 507 x with
  | true => rfl
  | false => simp [r_X8_ofLeave, hk] at h
def k_fits (σ : zS) (x : Int32) (k : Nat) : Bool := k_fit σ (zA σ 14 x.toNatClampNeg k).toNatClampNeg && k_fit σ (zA σ 15 x.toNatClampNeg k).toNatClampNeg
def r_X8_ofJump (σ : zS) (x : Int32) : Nat := if r_X8_ofLeave σ x = 0 then (if zall (k_fits σ x) (zI σ 400 x.toNatClampNeg).toNatClampNeg = true then 0 else 3) else r_X8_ofLeave σ x
theorem r_X8_ofJump_lt (σ : zS) (x : Int32) : r_X8_ofJump σ x < 5 := by
  unfold r_X8_ofJump
  (repeat' split) <;> first | decide | exact r_X8_ofLeave_lt σ x
theorem zmX8_ofJump : zmS yX8_ofJump RX8 cX8_ofJump 5 (some (.object "Silkloft$Refusal")) 2 := ⟨m_440, m_9, m_441, rfl, by decide, by decide, by decide +kernel⟩
set_option maxRecDepth 100000 in
set_option maxHeartbeats 4000000 in
theorem ctX8_ofJump (l : Launch) (D : va_G) (cy : Nat → ClassId) (rf : Nat → Nat) (ad : Nat → Nat → Nat) (σ : zS) (x : Int32) (hV : zV σ) : Met l yX8_ofJump (zw yX8_ofJump cX8_ofJump 5 (some (.object "Silkloft$Refusal"))) (zrm 5) (va_Pc [.ref (ad 0 0), .int x] (zBE D cy rf (zW D cy ad zsL σ))) (zqR (.ref (rf (r_X8_ofJump σ x)))) 0 0 (fun _ => False) := by
  refine zmet (by decide) rfl (Nat.le_of_ble_eq_true rfl) rfl (fun p e s m below meth c ls X hml hr hlocks hv hl => ?_)
  obtain ⟨hK, hE, hW⟩ := hv
  obtain ⟨hx, hb, -, -⟩ := id X
  have hl : lv_has ls 5 [(0, .ref (ad 0 0)), (1, .int x)] := hl
  refine lv_aload_n hx hb dX8_ofJump_0 rfl (lv_at hl 0 rfl) ?_
  refine lv_iload_n hx hb dX8_ofJump_1 rfl (lv_at hl 1 rfl) ?_
  refine zcallRSe (As := [.ref (ad 0 0), .int x]) (rest := []) X hml hK hE hW (ctX8_ofLeave l D cy rf ad σ x hV) zmX8_ofLeave (by decide) m_436 ⟨Nat.le_of_ble_eq_true rfl, Nat.le_of_ble_eq_true rfl⟩ ⟨Nat.zero_le _, Nat.zero_le _⟩ rfl hl.1 rfl (Nat.le_of_ble_eq_true rfl) dX8_ofJump_2 ?_
  refine lv_astore_n (lv' := [(2, .ref (rf (r_X8_ofLeave σ x))), (0, .ref (ad 0 0)), (1, .int x)]) hx hb dX8_ofJump_5 rfl hl (by decide) rfl (fun ls hl => ?_)
  refine lv_aload_n hx hb dX8_ofJump_6 rfl (lv_at hl 0 rfl) ?_
  refine zgetE X hE (va_S.rf) 0 (by decide) rfl m_351 dX8_ofJump_7 ?_
  refine zcmpE_eq (tgt := 15) X hE.2.1 (r_X8_ofLeave_lt _ _) (by decide) dX8_ofJump_10 (by decide) (fun b1 => ?_) (fun b1 => ?_)
  · have h7 := zleave_has b1
    have hl7 : vp_in x 30 := zhas_in hV.2.2.1 (by decide) h7
    obtain ⟨q, hq, hqe⟩ := zhas_lt hV.2.2.1 (by decide) h7
    obtain ⟨a0, ha6, ha, hin⟩ := hV.2.2.2.2.2.2 q hq
    have hqx : x.toNatClampNeg = q := by rw [hqe]; exact nI_clamp (by have := hV.2.2.1.2; omega)
    rw [← hqx] at ha hin
    refine lv_aload_n hx hb dX8_ofJump_15 rfl (lv_at hl 1 rfl) ?_
    refine zg5_2 X hK hW m_250 dX8_ofJump_16 ?_
    refine lv_iload_n hx hb dX8_ofJump_19 rfl (lv_at hl 2 rfl) ?_
    refine zr3 X hK hW (by assumption) dX8_ofJump_20 ?_
    refine lv_astore_n (lv' := [(3, .ref (ad 13 x.toNatClampNeg)), (2, .ref (rf (r_X8_ofLeave σ x))), (0, .ref (ad 0 0)), (1, .int x)]) hx hb dX8_ofJump_21 rfl hl (by decide) rfl (fun ls hl => ?_)
    refine lv_iconst (v := 0) hx hb dX8_ofJump_22 (by decide) ?_
    refine lv_istore (lv' := [(4, .int 0), (3, .ref (ad 13 x.toNatClampNeg)), (2, .ref (rf (r_X8_ofLeave σ x))), (0, .ref (ad 0 0)), (1, .int x)]) hx hb dX8_ofJump_23 hl (by decide) rfl (fun ls hl => ?_)
    have loop25 : ∀ (n : Nat) (k : Nat) (ls : Array Slot), lv_has ls 5 [(0, .ref (ad 0 0)), (1, .int x), (2, .ref (rf (r_X8_ofLeave σ x))), (3, .ref (ad 13 x.toNatClampNeg)), (4, .int (nI k))] → a0 - k < n → (k ≤ a0) → (zall (k_fits σ x) k = true) → W p l e (zrm 5) s m ([.ref (ad 0 0), .int x] : List Value).toArray below meth c s.heap [] 0 0 (MQ below (zqR (.ref (rf (r_X8_ofJump σ x)))) ([.ref (ad 0 0), .int x] : List Value).toArray s 0 0 (fun _ => False)) (F0 m 25 ls []) := by
      intro n
      induction n with
      | zero => intro k ls hl hm hk hz; exact absurd hm (Nat.not_lt_zero _)
      | succ n ih25 =>
        intro k ls hl hm hk hz
        refine lv_iload hx hb dX8_ofJump_25 (lv_at hl 4 rfl) ?_
        refine lv_aload_n hx hb dX8_ofJump_27 rfl (lv_at hl 3 rfl) ?_
        refine zg4_0 X hK hW (zvin (by assumption)) m_186 dX8_ofJump_28 ?_
        refine lv_icmp_ge (tgt := 79) hx hb dX8_ofJump_31 (by decide) (fun b2 => ?_) (fun b2 => ?_)
        · refine zgetE X hE (va_S.rf) 0 (by decide) rfl m_351 dX8_ofJump_79 ?_
          exact ze_a hx hb hr hlocks (by rw [r_X8_ofJump, if_pos b1, ha, nI_clamp (by omega), ← zge_c (by omega) hk (by rw [← ha]; exact b2), if_pos hz]) dX8_ofJump_82
        · have hlt : k < a0 := zlt_c (by omega) hk (by rw [← ha]; exact b2)
          refine lv_iload hx hb dX8_ofJump_34 (lv_at hl 4 rfl) ?_
          refine lv_bipush (v := 6) hx hb dX8_ofJump_36 (by decide) ?_
          refine lv_icmp_ge (tgt := 79) hx hb dX8_ofJump_38 (by decide) (fun h => absurd h (show ¬ (6 : Int32) ≤ nI k from fun z => absurd (znle (a := 6) (by decide) (by omega) z) (by omega))) (fun b3 => ?_)
          refine lv_aload_n hx hb dX8_ofJump_41 rfl (lv_at hl 0 rfl) ?_
          refine lv_aload_n hx hb dX8_ofJump_42 rfl (lv_at hl 3 rfl) ?_
          refine zg4_2 X hK hW (zvin (by assumption)) m_192 dX8_ofJump_43 ?_
          refine lv_iload hx hb dX8_ofJump_46 (lv_at hl 4 rfl) ?_
          refine zan14 X hK hW (zvin (by assumption)) (by omega) dX8_ofJump_48 ?_
          refine zcallRV (As := [.int (zA σ 14 x.toNatClampNeg k)]) (rest := []) X hml hK hW (ctX5_isFitToJump_x l D cy ad σ (zA σ 14 x.toNatClampNeg k) (hin k hlt).1 hV) zmX5_isFitToJump (by decide) m_400 (zrecv hK (hW 0 0 rfl (by decide)) rfl) ⟨Nat.le_of_ble_eq_true rfl, Nat.le_of_ble_eq_true rfl⟩ ⟨Nat.zero_le _, Nat.zero_le _⟩ rfl hl.1 rfl (Nat.le_of_ble_eq_true rfl) dX8_ofJump_49 ?_
          refine zb_eq (tgt := 69) hx hb dX8_ofJump_52 (by decide) (fun b4 => ?_) (fun b4 => ?_)
          · refine zgetE X hE (va_S.rf) 3 (by decide) rfl m_377 dX8_ofJump_69 ?_
            exact ze_a hx hb hr hlocks (by rw [r_X8_ofJump, if_pos b1, ha, nI_clamp (by omega), zall_no hlt (by simp [k_fits, b4])]; rfl) dX8_ofJump_72
          · refine lv_aload_n hx hb dX8_ofJump_55 rfl (lv_at hl 0 rfl) ?_
            refine lv_aload_n hx hb dX8_ofJump_56 rfl (lv_at hl 3 rfl) ?_
            refine zg4_3 X hK hW (zvin (by assumption)) m_195 dX8_ofJump_57 ?_
            refine lv_iload hx hb dX8_ofJump_60 (lv_at hl 4 rfl) ?_
            refine zan15 X hK hW (zvin (by assumption)) (by omega) dX8_ofJump_62 ?_
            refine zcallRV (As := [.int (zA σ 15 x.toNatClampNeg k)]) (rest := []) X hml hK hW (ctX5_isFitToJump_x l D cy ad σ (zA σ 15 x.toNatClampNeg k) (hin k hlt).2 hV) zmX5_isFitToJump (by decide) m_400 (zrecv hK (hW 0 0 rfl (by decide)) rfl) ⟨Nat.le_of_ble_eq_true rfl, Nat.le_of_ble_eq_true rfl⟩ ⟨Nat.zero_le _, Nat.zero_le _⟩ rfl hl.1 rfl (Nat.le_of_ble_eq_true rfl) dX8_ofJump_63 ?_
            refine zb_ne (tgt := 73) hx hb dX8_ofJump_66 (by decide) (fun b5 => ?_) (fun b5 => ?_)
            · refine lv_iinc (v := nI (k + 1)) (lv' := [(4, .int (nI (k + 1))), (0, .ref (ad 0 0)), (1, .int x), (2, .ref (rf (r_X8_ofLeave σ x))), (3, .ref (ad 13 x.toNatClampNeg))]) hx hb dX8_ofJump_73 hl (k := 4) rfl (nI_1 k) (by decide) rfl (fun ls hl => ?_)
              refine lv_goto (tgt := 25) hx hb dX8_ofJump_76 (by decide) ?_
              exact ih25 (k + 1) _ (lv_sub hl [1, 2, 3, 4, 0] rfl) (by omega) hlt (by rw [zall, hz]; simp [k_fits, b4, b5])
            · refine zgetE X hE (va_S.rf) 3 (by decide) rfl m_377 dX8_ofJump_69 ?_
              exact ze_a hx hb hr hlocks (by rw [r_X8_ofJump, if_pos b1, ha, nI_clamp (by omega), zall_no hlt (by simp [k_fits, b4, b5])]; rfl) dX8_ofJump_72
    exact loop25 _ 0 _ (lv_sub hl [3, 4, 2, 1, 0] rfl) (Nat.lt_succ_self _) (Nat.zero_le _) rfl
  · refine lv_aload_n hx hb dX8_ofJump_13 rfl (lv_at hl 0 rfl) ?_
    exact ze_a hx hb hr hlocks (by rw [r_X8_ofJump, if_neg b1]) dX8_ofJump_14
