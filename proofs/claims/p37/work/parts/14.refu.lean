theorem zmX8_refusalOf : zmS yX8_refusalOf RX8 cX8_refusalOf 6 (some (.object "Silkloft$Refusal")) 6 := ⟨m_338, m_9, m_339, rfl, by decide, by decide, by decide +kernel⟩
def r_X8_refusalOf_0 (σ : zS) (w1 : Int32) (w2 : Int32) (w3 : Int32) (w4 : Int32) : Nat := (r_X8_ofAddRigger σ w1 w2)
theorem r_X8_refusalOf_0_lt (σ : zS) (w1 : Int32) (w2 : Int32) (w3 : Int32) (w4 : Int32) : r_X8_refusalOf_0 σ w1 w2 w3 w4 < 5 := by
  unfold r_X8_refusalOf_0
  (repeat' split) <;> first | decide | exact r_X8_ofAddRigger_lt ..
set_option maxRecDepth 100000 in
set_option maxHeartbeats 4000000 in
theorem ctX8_refusalOf_0 (l : Launch) (D : va_G) (cy : Nat → ClassId) (rf : Nat → Nat) (ad : Nat → Nat → Nat) (σ : zS) (w1 : Int32) (w2 : Int32) (w3 : Int32) (w4 : Int32) (hV : zV σ) : Met l yX8_refusalOf (zw yX8_refusalOf cX8_refusalOf 6 (some (.object "Silkloft$Refusal"))) (zrm 6) (va_Pc [.ref (ad 0 0), .int 0, .int w1, .int w2, .int w3, .int w4] (zBE D cy rf (zW D cy ad zsL σ))) (zqR (.ref (rf (r_X8_refusalOf_0 σ w1 w2 w3 w4)))) 0 0 (fun _ => False) := by
  refine zmet (by decide) rfl (Nat.le_of_ble_eq_true rfl) rfl (fun p e s m below meth c ls X hml hr hlocks hv hl => ?_)
  obtain ⟨hK, hE, hW⟩ := hv
  obtain ⟨hx, hb, -, -⟩ := id X
  have hl : lv_has ls 6 [(0, .ref (ad 0 0)), (1, .int 0), (2, .int w1), (3, .int w2), (4, .int w3), (5, .int w4)] := hl
  refine lv_iload_n hx hb dX8_refusalOf_0 rfl (lv_at hl 1 rfl) ?_
  refine lv_tableIn (off := 95) (tgt := 96) hx hb dX8_refusalOf_1 (by decide) (by decide) rfl (by decide) ?_
  refine lv_aload_n hx hb dX8_refusalOf_96 rfl (lv_at hl 0 rfl) ?_
  refine lv_iload_n hx hb dX8_refusalOf_97 rfl (lv_at hl 2 rfl) ?_
  refine lv_iload_n hx hb dX8_refusalOf_98 rfl (lv_at hl 3 rfl) ?_
  refine zcallRSe (As := [.ref (ad 0 0), .int w1, .int w2]) (rest := []) X hml hK hE hW (ctX8_ofAddRigger l D cy rf ad σ w1 w2) zmX8_ofAddRigger (by decide) m_340 ⟨Nat.le_of_ble_eq_true rfl, Nat.le_of_ble_eq_true rfl⟩ ⟨Nat.zero_le _, Nat.zero_le _⟩ rfl hl.1 rfl (Nat.le_of_ble_eq_true rfl) dX8_refusalOf_99 ?_
  exact ze_a hx hb hr hlocks (by rw [r_X8_refusalOf_0]) dX8_refusalOf_102
def r_X8_refusalOf_1 (σ : zS) (w1 : Int32) (w2 : Int32) (w3 : Int32) (w4 : Int32) : Nat := (r_X8_ofSetLicences σ w1 w2 w3)
theorem r_X8_refusalOf_1_lt (σ : zS) (w1 : Int32) (w2 : Int32) (w3 : Int32) (w4 : Int32) : r_X8_refusalOf_1 σ w1 w2 w3 w4 < 5 := by
  unfold r_X8_refusalOf_1
  (repeat' split) <;> first | decide | exact r_X8_ofSetLicences_lt ..
set_option maxRecDepth 100000 in
set_option maxHeartbeats 4000000 in
theorem ctX8_refusalOf_1 (l : Launch) (D : va_G) (cy : Nat → ClassId) (rf : Nat → Nat) (ad : Nat → Nat → Nat) (σ : zS) (w1 : Int32) (w2 : Int32) (w3 : Int32) (w4 : Int32) (hV : zV σ) : Met l yX8_refusalOf (zw yX8_refusalOf cX8_refusalOf 6 (some (.object "Silkloft$Refusal"))) (zrm 6) (va_Pc [.ref (ad 0 0), .int 1, .int w1, .int w2, .int w3, .int w4] (zBE D cy rf (zW D cy ad zsL σ))) (zqR (.ref (rf (r_X8_refusalOf_1 σ w1 w2 w3 w4)))) 0 0 (fun _ => False) := by
  refine zmet (by decide) rfl (Nat.le_of_ble_eq_true rfl) rfl (fun p e s m below meth c ls X hml hr hlocks hv hl => ?_)
  obtain ⟨hK, hE, hW⟩ := hv
  obtain ⟨hx, hb, -, -⟩ := id X
  have hl : lv_has ls 6 [(0, .ref (ad 0 0)), (1, .int 1), (2, .int w1), (3, .int w2), (4, .int w3), (5, .int w4)] := hl
  refine lv_iload_n hx hb dX8_refusalOf_0 rfl (lv_at hl 1 rfl) ?_
  refine lv_tableIn (off := 102) (tgt := 103) hx hb dX8_refusalOf_1 (by decide) (by decide) rfl (by decide) ?_
  refine lv_aload_n hx hb dX8_refusalOf_103 rfl (lv_at hl 0 rfl) ?_
  refine lv_iload_n hx hb dX8_refusalOf_104 rfl (lv_at hl 2 rfl) ?_
  refine lv_iload_n hx hb dX8_refusalOf_105 rfl (lv_at hl 3 rfl) ?_
  refine lv_iload hx hb dX8_refusalOf_106 (lv_at hl 4 rfl) ?_
  refine zcallRSe (As := [.ref (ad 0 0), .int w1, .int w2, .int w3]) (rest := []) X hml hK hE hW (ctX8_ofSetLicences l D cy rf ad σ w1 w2 w3) zmX8_ofSetLicences (by decide) m_355 ⟨Nat.le_of_ble_eq_true rfl, Nat.le_of_ble_eq_true rfl⟩ ⟨Nat.zero_le _, Nat.zero_le _⟩ rfl hl.1 rfl (Nat.le_of_ble_eq_true rfl) dX8_refusalOf_108 ?_
  exact ze_a hx hb hr hlocks (by rw [r_X8_refusalOf_1]) dX8_refusalOf_111
def r_X8_refusalOf_2 (σ : zS) (w1 : Int32) (w2 : Int32) (w3 : Int32) (w4 : Int32) : Nat := (r_X8_ofAddCanopy σ w1 w2 w3 w4)
theorem r_X8_refusalOf_2_lt (σ : zS) (w1 : Int32) (w2 : Int32) (w3 : Int32) (w4 : Int32) : r_X8_refusalOf_2 σ w1 w2 w3 w4 < 5 := by
  unfold r_X8_refusalOf_2
  (repeat' split) <;> first | decide | exact r_X8_ofAddCanopy_lt ..
set_option maxRecDepth 100000 in
set_option maxHeartbeats 4000000 in
theorem ctX8_refusalOf_2 (l : Launch) (D : va_G) (cy : Nat → ClassId) (rf : Nat → Nat) (ad : Nat → Nat → Nat) (σ : zS) (w1 : Int32) (w2 : Int32) (w3 : Int32) (w4 : Int32) (hV : zV σ) : Met l yX8_refusalOf (zw yX8_refusalOf cX8_refusalOf 6 (some (.object "Silkloft$Refusal"))) (zrm 6) (va_Pc [.ref (ad 0 0), .int 2, .int w1, .int w2, .int w3, .int w4] (zBE D cy rf (zW D cy ad zsL σ))) (zqR (.ref (rf (r_X8_refusalOf_2 σ w1 w2 w3 w4)))) 0 0 (fun _ => False) := by
  refine zmet (by decide) rfl (Nat.le_of_ble_eq_true rfl) rfl (fun p e s m below meth c ls X hml hr hlocks hv hl => ?_)
  obtain ⟨hK, hE, hW⟩ := hv
  obtain ⟨hx, hb, -, -⟩ := id X
  have hl : lv_has ls 6 [(0, .ref (ad 0 0)), (1, .int 2), (2, .int w1), (3, .int w2), (4, .int w3), (5, .int w4)] := hl
  refine lv_iload_n hx hb dX8_refusalOf_0 rfl (lv_at hl 1 rfl) ?_
  refine lv_tableIn (off := 111) (tgt := 112) hx hb dX8_refusalOf_1 (by decide) (by decide) rfl (by decide) ?_
  refine lv_aload_n hx hb dX8_refusalOf_112 rfl (lv_at hl 0 rfl) ?_
  refine lv_iload_n hx hb dX8_refusalOf_113 rfl (lv_at hl 2 rfl) ?_
  refine lv_iload_n hx hb dX8_refusalOf_114 rfl (lv_at hl 3 rfl) ?_
  refine lv_iload hx hb dX8_refusalOf_115 (lv_at hl 4 rfl) ?_
  refine lv_iload hx hb dX8_refusalOf_117 (lv_at hl 5 rfl) ?_
  refine zcallRSe (As := [.ref (ad 0 0), .int w1, .int w2, .int w3, .int w4]) (rest := []) X hml hK hE hW (ctX8_ofAddCanopy l D cy rf ad σ w1 w2 w3 w4) zmX8_ofAddCanopy (by decide) m_364 ⟨Nat.le_of_ble_eq_true rfl, Nat.le_of_ble_eq_true rfl⟩ ⟨Nat.zero_le _, Nat.zero_le _⟩ rfl hl.1 rfl (Nat.le_of_ble_eq_true rfl) dX8_refusalOf_119 ?_
  exact ze_a hx hb hr hlocks (by rw [r_X8_refusalOf_2]) dX8_refusalOf_122
def r_X8_refusalOf_3 (σ : zS) (w1 : Int32) (w2 : Int32) (w3 : Int32) (w4 : Int32) : Nat := if k_in w1 1 999 = false then 2 else 0
theorem r_X8_refusalOf_3_lt (σ : zS) (w1 : Int32) (w2 : Int32) (w3 : Int32) (w4 : Int32) : r_X8_refusalOf_3 σ w1 w2 w3 w4 < 5 := by
  unfold r_X8_refusalOf_3
  (repeat' split) <;> first | decide
set_option maxRecDepth 100000 in
set_option maxHeartbeats 4000000 in
theorem ctX8_refusalOf_3 (l : Launch) (D : va_G) (cy : Nat → ClassId) (rf : Nat → Nat) (ad : Nat → Nat → Nat) (σ : zS) (w1 : Int32) (w2 : Int32) (w3 : Int32) (w4 : Int32) (hV : zV σ) : Met l yX8_refusalOf (zw yX8_refusalOf cX8_refusalOf 6 (some (.object "Silkloft$Refusal"))) (zrm 6) (va_Pc [.ref (ad 0 0), .int 3, .int w1, .int w2, .int w3, .int w4] (zBE D cy rf (zW D cy ad zsL σ))) (zqR (.ref (rf (r_X8_refusalOf_3 σ w1 w2 w3 w4)))) 0 0 (fun _ => False) := by
  refine zmet (by decide) rfl (Nat.le_of_ble_eq_true rfl) rfl (fun p e s m below meth c ls X hml hr hlocks hv hl => ?_)
  obtain ⟨hK, hE, hW⟩ := hv
  obtain ⟨hx, hb, -, -⟩ := id X
  have hl : lv_has ls 6 [(0, .ref (ad 0 0)), (1, .int 3), (2, .int w1), (3, .int w2), (4, .int w3), (5, .int w4)] := hl
  refine lv_iload_n hx hb dX8_refusalOf_0 rfl (lv_at hl 1 rfl) ?_
  refine lv_tableIn (off := 122) (tgt := 123) hx hb dX8_refusalOf_1 (by decide) (by decide) rfl (by decide) ?_
  refine lv_iload_n hx hb dX8_refusalOf_123 rfl (lv_at hl 2 rfl) ?_
  refine lv_iconst (v := 1) hx hb dX8_refusalOf_124 (by decide) ?_
  refine lv_sipush (v := 999) hx hb dX8_refusalOf_125 (by decide) ?_
  refine zcallRS (As := [.int w1, .int 1, .int 999]) (rest := []) X hml hK trivial (ctX8_isIn l D cy w1 1 999) zmX8_isIn (by decide) m_346 ⟨Nat.le_of_ble_eq_true rfl, Nat.le_of_ble_eq_true rfl⟩ ⟨Nat.zero_le _, Nat.zero_le _⟩ rfl hl.1 rfl (Nat.le_of_ble_eq_true rfl) dX8_refusalOf_128 ?_
  refine zb_eq (tgt := 140) hx hb dX8_refusalOf_131 (by decide) (fun b1 => ?_) (fun b1 => ?_)
  · refine zgetE X hE (va_S.rf) 2 (by decide) rfl m_349 dX8_refusalOf_140 ?_
    exact ze_a hx hb hr hlocks (by rw [r_X8_refusalOf_3, if_pos b1]) dX8_refusalOf_143
  · refine zgetE X hE (va_S.rf) 0 (by decide) rfl m_351 dX8_refusalOf_134 ?_
    refine lv_goto (tgt := 143) hx hb dX8_refusalOf_137 (by decide) ?_
    exact ze_a hx hb hr hlocks (by rw [r_X8_refusalOf_3, if_neg (by simp [b1])]) dX8_refusalOf_143
def r_X8_refusalOf_4 (σ : zS) (w1 : Int32) (w2 : Int32) (w3 : Int32) (w4 : Int32) : Nat := (r_X8_ofGoOn σ w1)
theorem r_X8_refusalOf_4_lt (σ : zS) (w1 : Int32) (w2 : Int32) (w3 : Int32) (w4 : Int32) : r_X8_refusalOf_4 σ w1 w2 w3 w4 < 5 := by
  unfold r_X8_refusalOf_4
  (repeat' split) <;> first | decide | exact r_X8_ofGoOn_lt ..
set_option maxRecDepth 100000 in
set_option maxHeartbeats 4000000 in
theorem ctX8_refusalOf_4 (l : Launch) (D : va_G) (cy : Nat → ClassId) (rf : Nat → Nat) (ad : Nat → Nat → Nat) (σ : zS) (w1 : Int32) (w2 : Int32) (w3 : Int32) (w4 : Int32) (hV : zV σ) : Met l yX8_refusalOf (zw yX8_refusalOf cX8_refusalOf 6 (some (.object "Silkloft$Refusal"))) (zrm 6) (va_Pc [.ref (ad 0 0), .int 4, .int w1, .int w2, .int w3, .int w4] (zBE D cy rf (zW D cy ad zsL σ))) (zqR (.ref (rf (r_X8_refusalOf_4 σ w1 w2 w3 w4)))) 0 0 (fun _ => False) := by
  refine zmet (by decide) rfl (Nat.le_of_ble_eq_true rfl) rfl (fun p e s m below meth c ls X hml hr hlocks hv hl => ?_)
  obtain ⟨hK, hE, hW⟩ := hv
  obtain ⟨hx, hb, -, -⟩ := id X
  have hl : lv_has ls 6 [(0, .ref (ad 0 0)), (1, .int 4), (2, .int w1), (3, .int w2), (4, .int w3), (5, .int w4)] := hl
  refine lv_iload_n hx hb dX8_refusalOf_0 rfl (lv_at hl 1 rfl) ?_
  refine lv_tableIn (off := 143) (tgt := 144) hx hb dX8_refusalOf_1 (by decide) (by decide) rfl (by decide) ?_
  refine lv_aload_n hx hb dX8_refusalOf_144 rfl (lv_at hl 0 rfl) ?_
  refine lv_iload_n hx hb dX8_refusalOf_145 rfl (lv_at hl 2 rfl) ?_
  refine zcallRSe (As := [.ref (ad 0 0), .int w1]) (rest := []) X hml hK hE hW (ctX8_ofGoOn l D cy rf ad σ w1) zmX8_ofGoOn (by decide) m_367 ⟨Nat.le_of_ble_eq_true rfl, Nat.le_of_ble_eq_true rfl⟩ ⟨Nat.zero_le _, Nat.zero_le _⟩ rfl hl.1 rfl (Nat.le_of_ble_eq_true rfl) dX8_refusalOf_146 ?_
  exact ze_a hx hb hr hlocks (by rw [r_X8_refusalOf_4]) dX8_refusalOf_149
def r_X8_refusalOf_5 (σ : zS) (w1 : Int32) (w2 : Int32) (w3 : Int32) (w4 : Int32) : Nat := (r_X8_ofHang σ w1 w2)
theorem r_X8_refusalOf_5_lt (σ : zS) (w1 : Int32) (w2 : Int32) (w3 : Int32) (w4 : Int32) : r_X8_refusalOf_5 σ w1 w2 w3 w4 < 5 := by
  unfold r_X8_refusalOf_5
  (repeat' split) <;> first | decide | exact r_X8_ofHang_lt ..
set_option maxRecDepth 100000 in
set_option maxHeartbeats 4000000 in
theorem ctX8_refusalOf_5 (l : Launch) (D : va_G) (cy : Nat → ClassId) (rf : Nat → Nat) (ad : Nat → Nat → Nat) (σ : zS) (w1 : Int32) (w2 : Int32) (w3 : Int32) (w4 : Int32) (hV : zV σ) : Met l yX8_refusalOf (zw yX8_refusalOf cX8_refusalOf 6 (some (.object "Silkloft$Refusal"))) (zrm 6) (va_Pc [.ref (ad 0 0), .int 5, .int w1, .int w2, .int w3, .int w4] (zBE D cy rf (zW D cy ad zsL σ))) (zqR (.ref (rf (r_X8_refusalOf_5 σ w1 w2 w3 w4)))) 0 0 (fun _ => False) := by
  refine zmet (by decide) rfl (Nat.le_of_ble_eq_true rfl) rfl (fun p e s m below meth c ls X hml hr hlocks hv hl => ?_)
  obtain ⟨hK, hE, hW⟩ := hv
  obtain ⟨hx, hb, -, -⟩ := id X
  have hl : lv_has ls 6 [(0, .ref (ad 0 0)), (1, .int 5), (2, .int w1), (3, .int w2), (4, .int w3), (5, .int w4)] := hl
  refine lv_iload_n hx hb dX8_refusalOf_0 rfl (lv_at hl 1 rfl) ?_
  refine lv_tableIn (off := 149) (tgt := 150) hx hb dX8_refusalOf_1 (by decide) (by decide) rfl (by decide) ?_
  refine lv_aload_n hx hb dX8_refusalOf_150 rfl (lv_at hl 0 rfl) ?_
  refine lv_iload_n hx hb dX8_refusalOf_151 rfl (lv_at hl 2 rfl) ?_
  refine lv_iload_n hx hb dX8_refusalOf_152 rfl (lv_at hl 3 rfl) ?_
  refine zcallRSe (As := [.ref (ad 0 0), .int w1, .int w2]) (rest := []) X hml hK hE hW (ctX8_ofHang l D cy rf ad σ w1 w2 hV) zmX8_ofHang (by decide) m_370 ⟨Nat.le_of_ble_eq_true rfl, Nat.le_of_ble_eq_true rfl⟩ ⟨Nat.zero_le _, Nat.zero_le _⟩ rfl hl.1 rfl (Nat.le_of_ble_eq_true rfl) dX8_refusalOf_153 ?_
  exact ze_a hx hb hr hlocks (by rw [r_X8_refusalOf_5]) dX8_refusalOf_156
def r_X8_refusalOf_6 (σ : zS) (w1 : Int32) (w2 : Int32) (w3 : Int32) (w4 : Int32) : Nat := (r_X8_ofStep σ w1 w2)
theorem r_X8_refusalOf_6_lt (σ : zS) (w1 : Int32) (w2 : Int32) (w3 : Int32) (w4 : Int32) : r_X8_refusalOf_6 σ w1 w2 w3 w4 < 5 := by
  unfold r_X8_refusalOf_6
  (repeat' split) <;> first | decide | exact r_X8_ofStep_lt ..
set_option maxRecDepth 100000 in
set_option maxHeartbeats 4000000 in
theorem ctX8_refusalOf_6 (l : Launch) (D : va_G) (cy : Nat → ClassId) (rf : Nat → Nat) (ad : Nat → Nat → Nat) (σ : zS) (w1 : Int32) (w2 : Int32) (w3 : Int32) (w4 : Int32) (hV : zV σ) : Met l yX8_refusalOf (zw yX8_refusalOf cX8_refusalOf 6 (some (.object "Silkloft$Refusal"))) (zrm 6) (va_Pc [.ref (ad 0 0), .int 6, .int w1, .int w2, .int w3, .int w4] (zBE D cy rf (zW D cy ad zsL σ))) (zqR (.ref (rf (r_X8_refusalOf_6 σ w1 w2 w3 w4)))) 0 0 (fun _ => False) := by
  refine zmet (by decide) rfl (Nat.le_of_ble_eq_true rfl) rfl (fun p e s m below meth c ls X hml hr hlocks hv hl => ?_)
  obtain ⟨hK, hE, hW⟩ := hv
  obtain ⟨hx, hb, -, -⟩ := id X
  have hl : lv_has ls 6 [(0, .ref (ad 0 0)), (1, .int 6), (2, .int w1), (3, .int w2), (4, .int w3), (5, .int w4)] := hl
  refine lv_iload_n hx hb dX8_refusalOf_0 rfl (lv_at hl 1 rfl) ?_
  refine lv_tableIn (off := 156) (tgt := 157) hx hb dX8_refusalOf_1 (by decide) (by decide) rfl (by decide) ?_
  refine lv_aload_n hx hb dX8_refusalOf_157 rfl (lv_at hl 0 rfl) ?_
  refine lv_iload_n hx hb dX8_refusalOf_158 rfl (lv_at hl 2 rfl) ?_
  refine lv_iload_n hx hb dX8_refusalOf_159 rfl (lv_at hl 3 rfl) ?_
  refine zcallRSe (As := [.ref (ad 0 0), .int w1, .int w2]) (rest := []) X hml hK hE hW (ctX8_ofStep l D cy rf ad σ w1 w2 hV) zmX8_ofStep (by decide) m_383 ⟨Nat.le_of_ble_eq_true rfl, Nat.le_of_ble_eq_true rfl⟩ ⟨Nat.zero_le _, Nat.zero_le _⟩ rfl hl.1 rfl (Nat.le_of_ble_eq_true rfl) dX8_refusalOf_160 ?_
  exact ze_a hx hb hr hlocks (by rw [r_X8_refusalOf_6]) dX8_refusalOf_163
def r_X8_refusalOf_7 (σ : zS) (w1 : Int32) (w2 : Int32) (w3 : Int32) (w4 : Int32) : Nat := (r_X8_ofCanopyIn σ w1 112)
theorem r_X8_refusalOf_7_lt (σ : zS) (w1 : Int32) (w2 : Int32) (w3 : Int32) (w4 : Int32) : r_X8_refusalOf_7 σ w1 w2 w3 w4 < 5 := by
  unfold r_X8_refusalOf_7
  (repeat' split) <;> first | decide | exact r_X8_ofCanopyIn_lt ..
set_option maxRecDepth 100000 in
set_option maxHeartbeats 4000000 in
theorem ctX8_refusalOf_7 (l : Launch) (D : va_G) (cy : Nat → ClassId) (rf : Nat → Nat) (ad : Nat → Nat → Nat) (σ : zS) (w1 : Int32) (w2 : Int32) (w3 : Int32) (w4 : Int32) (hV : zV σ) : Met l yX8_refusalOf (zw yX8_refusalOf cX8_refusalOf 6 (some (.object "Silkloft$Refusal"))) (zrm 6) (va_Pc [.ref (ad 0 0), .int 7, .int w1, .int w2, .int w3, .int w4] (zBE D cy rf (zW D cy ad zsL σ))) (zqR (.ref (rf (r_X8_refusalOf_7 σ w1 w2 w3 w4)))) 0 0 (fun _ => False) := by
  refine zmet (by decide) rfl (Nat.le_of_ble_eq_true rfl) rfl (fun p e s m below meth c ls X hml hr hlocks hv hl => ?_)
  obtain ⟨hK, hE, hW⟩ := hv
  obtain ⟨hx, hb, -, -⟩ := id X
  have hl : lv_has ls 6 [(0, .ref (ad 0 0)), (1, .int 7), (2, .int w1), (3, .int w2), (4, .int w3), (5, .int w4)] := hl
  refine lv_iload_n hx hb dX8_refusalOf_0 rfl (lv_at hl 1 rfl) ?_
  refine lv_tableIn (off := 163) (tgt := 164) hx hb dX8_refusalOf_1 (by decide) (by decide) rfl (by decide) ?_
  refine lv_aload_n hx hb dX8_refusalOf_164 rfl (lv_at hl 0 rfl) ?_
  refine lv_iload_n hx hb dX8_refusalOf_165 rfl (lv_at hl 2 rfl) ?_
  refine lv_bipush (v := 112) hx hb dX8_refusalOf_166 (by decide) ?_
  refine zcallRSe (As := [.ref (ad 0 0), .int w1, .int 112]) (rest := []) X hml hK hE hW (ctX8_ofCanopyIn l D cy rf ad σ w1 112 hV) zmX8_ofCanopyIn (by decide) m_390 ⟨Nat.le_of_ble_eq_true rfl, Nat.le_of_ble_eq_true rfl⟩ ⟨Nat.zero_le _, Nat.zero_le _⟩ rfl hl.1 rfl (Nat.le_of_ble_eq_true rfl) dX8_refusalOf_168 ?_
  exact ze_a hx hb hr hlocks (by rw [r_X8_refusalOf_7]) dX8_refusalOf_171
def r_X8_refusalOf_8 (σ : zS) (w1 : Int32) (w2 : Int32) (w3 : Int32) (w4 : Int32) : Nat := if 30 ≤ (zI σ 507 0) then 4 else 0
theorem r_X8_refusalOf_8_lt (σ : zS) (w1 : Int32) (w2 : Int32) (w3 : Int32) (w4 : Int32) : r_X8_refusalOf_8 σ w1 w2 w3 w4 < 5 := by
  unfold r_X8_refusalOf_8
  (repeat' split) <;> first | decide
set_option maxRecDepth 100000 in
set_option maxHeartbeats 4000000 in
theorem ctX8_refusalOf_8 (l : Launch) (D : va_G) (cy : Nat → ClassId) (rf : Nat → Nat) (ad : Nat → Nat → Nat) (σ : zS) (w1 : Int32) (w2 : Int32) (w3 : Int32) (w4 : Int32) (hV : zV σ) : Met l yX8_refusalOf (zw yX8_refusalOf cX8_refusalOf 6 (some (.object "Silkloft$Refusal"))) (zrm 6) (va_Pc [.ref (ad 0 0), .int 8, .int w1, .int w2, .int w3, .int w4] (zBE D cy rf (zW D cy ad zsL σ))) (zqR (.ref (rf (r_X8_refusalOf_8 σ w1 w2 w3 w4)))) 0 0 (fun _ => False) := by
  refine zmet (by decide) rfl (Nat.le_of_ble_eq_true rfl) rfl (fun p e s m below meth c ls X hml hr hlocks hv hl => ?_)
  obtain ⟨hK, hE, hW⟩ := hv
  obtain ⟨hx, hb, -, -⟩ := id X
  have hl : lv_has ls 6 [(0, .ref (ad 0 0)), (1, .int 8), (2, .int w1), (3, .int w2), (4, .int w3), (5, .int w4)] := hl
  refine lv_iload_n hx hb dX8_refusalOf_0 rfl (lv_at hl 1 rfl) ?_
  refine lv_tableIn (off := 171) (tgt := 172) hx hb dX8_refusalOf_1 (by decide) (by decide) rfl (by decide) ?_
  refine lv_aload_n hx hb dX8_refusalOf_172 rfl (lv_at hl 0 rfl) ?_
  refine zg5_7 X hK hW m_261 dX8_refusalOf_173 ?_
  refine lv_bipush (v := 30) hx hb dX8_refusalOf_176 (by decide) ?_
  refine lv_icmp_ge (tgt := 187) hx hb dX8_refusalOf_178 (by decide) (fun b1 => ?_) (fun b1 => ?_)
  · refine zgetE X hE (va_S.rf) 4 (by decide) rfl m_353 dX8_refusalOf_187 ?_
    exact ze_a hx hb hr hlocks (by rw [r_X8_refusalOf_8, if_pos b1]) dX8_refusalOf_190
  · refine zgetE X hE (va_S.rf) 0 (by decide) rfl m_351 dX8_refusalOf_181 ?_
    refine lv_goto (tgt := 190) hx hb dX8_refusalOf_184 (by decide) ?_
    exact ze_a hx hb hr hlocks (by rw [r_X8_refusalOf_8, if_neg b1]) dX8_refusalOf_190
def r_X8_refusalOf_9 (σ : zS) (w1 : Int32) (w2 : Int32) (w3 : Int32) (w4 : Int32) : Nat := (r_X8_ofBoard σ w1 w2 w3)
theorem r_X8_refusalOf_9_lt (σ : zS) (w1 : Int32) (w2 : Int32) (w3 : Int32) (w4 : Int32) : r_X8_refusalOf_9 σ w1 w2 w3 w4 < 5 := by
  unfold r_X8_refusalOf_9
  (repeat' split) <;> first | decide | exact r_X8_ofBoard_lt ..
set_option maxRecDepth 100000 in
set_option maxHeartbeats 4000000 in
theorem ctX8_refusalOf_9 (l : Launch) (D : va_G) (cy : Nat → ClassId) (rf : Nat → Nat) (ad : Nat → Nat → Nat) (σ : zS) (w1 : Int32) (w2 : Int32) (w3 : Int32) (w4 : Int32) (hV : zV σ) : Met l yX8_refusalOf (zw yX8_refusalOf cX8_refusalOf 6 (some (.object "Silkloft$Refusal"))) (zrm 6) (va_Pc [.ref (ad 0 0), .int 9, .int w1, .int w2, .int w3, .int w4] (zBE D cy rf (zW D cy ad zsL σ))) (zqR (.ref (rf (r_X8_refusalOf_9 σ w1 w2 w3 w4)))) 0 0 (fun _ => False) := by
  refine zmet (by decide) rfl (Nat.le_of_ble_eq_true rfl) rfl (fun p e s m below meth c ls X hml hr hlocks hv hl => ?_)
  obtain ⟨hK, hE, hW⟩ := hv
  obtain ⟨hx, hb, -, -⟩ := id X
  have hl : lv_has ls 6 [(0, .ref (ad 0 0)), (1, .int 9), (2, .int w1), (3, .int w2), (4, .int w3), (5, .int w4)] := hl
  refine lv_iload_n hx hb dX8_refusalOf_0 rfl (lv_at hl 1 rfl) ?_
  refine lv_tableIn (off := 190) (tgt := 191) hx hb dX8_refusalOf_1 (by decide) (by decide) rfl (by decide) ?_
  refine lv_aload_n hx hb dX8_refusalOf_191 rfl (lv_at hl 0 rfl) ?_
  refine lv_iload_n hx hb dX8_refusalOf_192 rfl (lv_at hl 2 rfl) ?_
  refine lv_iload_n hx hb dX8_refusalOf_193 rfl (lv_at hl 3 rfl) ?_
  refine lv_iload hx hb dX8_refusalOf_194 (lv_at hl 4 rfl) ?_
  refine zcallRSe (As := [.ref (ad 0 0), .int w1, .int w2, .int w3]) (rest := []) X hml hK hE hW (ctX8_ofBoard l D cy rf ad σ w1 w2 w3 hV) zmX8_ofBoard (by decide) m_393 ⟨Nat.le_of_ble_eq_true rfl, Nat.le_of_ble_eq_true rfl⟩ ⟨Nat.zero_le _, Nat.zero_le _⟩ rfl hl.1 rfl (Nat.le_of_ble_eq_true rfl) dX8_refusalOf_196 ?_
  exact ze_a hx hb hr hlocks (by rw [r_X8_refusalOf_9]) dX8_refusalOf_199
def r_X8_refusalOf_10 (σ : zS) (w1 : Int32) (w2 : Int32) (w3 : Int32) (w4 : Int32) : Nat := (r_X8_ofLeave σ w1)
theorem r_X8_refusalOf_10_lt (σ : zS) (w1 : Int32) (w2 : Int32) (w3 : Int32) (w4 : Int32) : r_X8_refusalOf_10 σ w1 w2 w3 w4 < 5 := by
  unfold r_X8_refusalOf_10
  (repeat' split) <;> first | decide | exact r_X8_ofLeave_lt ..
set_option maxRecDepth 100000 in
set_option maxHeartbeats 4000000 in
theorem ctX8_refusalOf_10 (l : Launch) (D : va_G) (cy : Nat → ClassId) (rf : Nat → Nat) (ad : Nat → Nat → Nat) (σ : zS) (w1 : Int32) (w2 : Int32) (w3 : Int32) (w4 : Int32) (hV : zV σ) : Met l yX8_refusalOf (zw yX8_refusalOf cX8_refusalOf 6 (some (.object "Silkloft$Refusal"))) (zrm 6) (va_Pc [.ref (ad 0 0), .int 10, .int w1, .int w2, .int w3, .int w4] (zBE D cy rf (zW D cy ad zsL σ))) (zqR (.ref (rf (r_X8_refusalOf_10 σ w1 w2 w3 w4)))) 0 0 (fun _ => False) := by
  refine zmet (by decide) rfl (Nat.le_of_ble_eq_true rfl) rfl (fun p e s m below meth c ls X hml hr hlocks hv hl => ?_)
  obtain ⟨hK, hE, hW⟩ := hv
  obtain ⟨hx, hb, -, -⟩ := id X
  have hl : lv_has ls 6 [(0, .ref (ad 0 0)), (1, .int 10), (2, .int w1), (3, .int w2), (4, .int w3), (5, .int w4)] := hl
  refine lv_iload_n hx hb dX8_refusalOf_0 rfl (lv_at hl 1 rfl) ?_
  refine lv_tableIn (off := 199) (tgt := 200) hx hb dX8_refusalOf_1 (by decide) (by decide) rfl (by decide) ?_
  refine lv_aload_n hx hb dX8_refusalOf_200 rfl (lv_at hl 0 rfl) ?_
  refine lv_iload_n hx hb dX8_refusalOf_201 rfl (lv_at hl 2 rfl) ?_
  refine zcallRSe (As := [.ref (ad 0 0), .int w1]) (rest := []) X hml hK hE hW (ctX8_ofLeave l D cy rf ad σ w1 hV) zmX8_ofLeave (by decide) m_436 ⟨Nat.le_of_ble_eq_true rfl, Nat.le_of_ble_eq_true rfl⟩ ⟨Nat.zero_le _, Nat.zero_le _⟩ rfl hl.1 rfl (Nat.le_of_ble_eq_true rfl) dX8_refusalOf_202 ?_
  exact ze_a hx hb hr hlocks (by rw [r_X8_refusalOf_10]) dX8_refusalOf_205
def r_X8_refusalOf_11 (σ : zS) (w1 : Int32) (w2 : Int32) (w3 : Int32) (w4 : Int32) : Nat := (r_X8_ofJump σ w1)
theorem r_X8_refusalOf_11_lt (σ : zS) (w1 : Int32) (w2 : Int32) (w3 : Int32) (w4 : Int32) : r_X8_refusalOf_11 σ w1 w2 w3 w4 < 5 := by
  unfold r_X8_refusalOf_11
  (repeat' split) <;> first | decide | exact r_X8_ofJump_lt ..
set_option maxRecDepth 100000 in
set_option maxHeartbeats 4000000 in
theorem ctX8_refusalOf_11 (l : Launch) (D : va_G) (cy : Nat → ClassId) (rf : Nat → Nat) (ad : Nat → Nat → Nat) (σ : zS) (w1 : Int32) (w2 : Int32) (w3 : Int32) (w4 : Int32) (hV : zV σ) : Met l yX8_refusalOf (zw yX8_refusalOf cX8_refusalOf 6 (some (.object "Silkloft$Refusal"))) (zrm 6) (va_Pc [.ref (ad 0 0), .int 11, .int w1, .int w2, .int w3, .int w4] (zBE D cy rf (zW D cy ad zsL σ))) (zqR (.ref (rf (r_X8_refusalOf_11 σ w1 w2 w3 w4)))) 0 0 (fun _ => False) := by
  refine zmet (by decide) rfl (Nat.le_of_ble_eq_true rfl) rfl (fun p e s m below meth c ls X hml hr hlocks hv hl => ?_)
  obtain ⟨hK, hE, hW⟩ := hv
  obtain ⟨hx, hb, -, -⟩ := id X
  have hl : lv_has ls 6 [(0, .ref (ad 0 0)), (1, .int 11), (2, .int w1), (3, .int w2), (4, .int w3), (5, .int w4)] := hl
  refine lv_iload_n hx hb dX8_refusalOf_0 rfl (lv_at hl 1 rfl) ?_
  refine lv_tableIn (off := 205) (tgt := 206) hx hb dX8_refusalOf_1 (by decide) (by decide) rfl (by decide) ?_
  refine lv_aload_n hx hb dX8_refusalOf_206 rfl (lv_at hl 0 rfl) ?_
  refine lv_iload_n hx hb dX8_refusalOf_207 rfl (lv_at hl 2 rfl) ?_
  refine zcallRSe (As := [.ref (ad 0 0), .int w1]) (rest := []) X hml hK hE hW (ctX8_ofJump l D cy rf ad σ w1 hV) zmX8_ofJump (by decide) m_439 ⟨Nat.le_of_ble_eq_true rfl, Nat.le_of_ble_eq_true rfl⟩ ⟨Nat.zero_le _, Nat.zero_le _⟩ rfl hl.1 rfl (Nat.le_of_ble_eq_true rfl) dX8_refusalOf_208 ?_
  exact ze_a hx hb hr hlocks (by rw [r_X8_refusalOf_11]) dX8_refusalOf_211
def r_X8_refusalOf_12 (σ : zS) (w1 : Int32) (w2 : Int32) (w3 : Int32) (w4 : Int32) : Nat := (r_X8_ofFind σ w1)
theorem r_X8_refusalOf_12_lt (σ : zS) (w1 : Int32) (w2 : Int32) (w3 : Int32) (w4 : Int32) : r_X8_refusalOf_12 σ w1 w2 w3 w4 < 5 := by
  unfold r_X8_refusalOf_12
  (repeat' split) <;> first | decide | exact r_X8_ofFind_lt ..
set_option maxRecDepth 100000 in
set_option maxHeartbeats 4000000 in
theorem ctX8_refusalOf_12 (l : Launch) (D : va_G) (cy : Nat → ClassId) (rf : Nat → Nat) (ad : Nat → Nat → Nat) (σ : zS) (w1 : Int32) (w2 : Int32) (w3 : Int32) (w4 : Int32) (hV : zV σ) : Met l yX8_refusalOf (zw yX8_refusalOf cX8_refusalOf 6 (some (.object "Silkloft$Refusal"))) (zrm 6) (va_Pc [.ref (ad 0 0), .int 12, .int w1, .int w2, .int w3, .int w4] (zBE D cy rf (zW D cy ad zsL σ))) (zqR (.ref (rf (r_X8_refusalOf_12 σ w1 w2 w3 w4)))) 0 0 (fun _ => False) := by
  refine zmet (by decide) rfl (Nat.le_of_ble_eq_true rfl) rfl (fun p e s m below meth c ls X hml hr hlocks hv hl => ?_)
  obtain ⟨hK, hE, hW⟩ := hv
  obtain ⟨hx, hb, -, -⟩ := id X
  have hl : lv_has ls 6 [(0, .ref (ad 0 0)), (1, .int 12), (2, .int w1), (3, .int w2), (4, .int w3), (5, .int w4)] := hl
  refine lv_iload_n hx hb dX8_refusalOf_0 rfl (lv_at hl 1 rfl) ?_
  refine lv_tableIn (off := 211) (tgt := 212) hx hb dX8_refusalOf_1 (by decide) (by decide) rfl (by decide) ?_
  refine lv_aload_n hx hb dX8_refusalOf_212 rfl (lv_at hl 0 rfl) ?_
  refine lv_iload_n hx hb dX8_refusalOf_213 rfl (lv_at hl 2 rfl) ?_
  refine zcallRSe (As := [.ref (ad 0 0), .int w1]) (rest := []) X hml hK hE hW (ctX8_ofFind l D cy rf ad σ w1) zmX8_ofFind (by decide) m_442 ⟨Nat.le_of_ble_eq_true rfl, Nat.le_of_ble_eq_true rfl⟩ ⟨Nat.zero_le _, Nat.zero_le _⟩ rfl hl.1 rfl (Nat.le_of_ble_eq_true rfl) dX8_refusalOf_214 ?_
  exact ze_a hx hb hr hlocks (by rw [r_X8_refusalOf_12]) dX8_refusalOf_217
def r_X8_refusalOf_13 (σ : zS) (w1 : Int32) (w2 : Int32) (w3 : Int32) (w4 : Int32) : Nat := (r_X8_ofWiden σ w1)
theorem r_X8_refusalOf_13_lt (σ : zS) (w1 : Int32) (w2 : Int32) (w3 : Int32) (w4 : Int32) : r_X8_refusalOf_13 σ w1 w2 w3 w4 < 5 := by
  unfold r_X8_refusalOf_13
  (repeat' split) <;> first | decide | exact r_X8_ofWiden_lt ..
set_option maxRecDepth 100000 in
set_option maxHeartbeats 4000000 in
theorem ctX8_refusalOf_13 (l : Launch) (D : va_G) (cy : Nat → ClassId) (rf : Nat → Nat) (ad : Nat → Nat → Nat) (σ : zS) (w1 : Int32) (w2 : Int32) (w3 : Int32) (w4 : Int32) (hV : zV σ) : Met l yX8_refusalOf (zw yX8_refusalOf cX8_refusalOf 6 (some (.object "Silkloft$Refusal"))) (zrm 6) (va_Pc [.ref (ad 0 0), .int 13, .int w1, .int w2, .int w3, .int w4] (zBE D cy rf (zW D cy ad zsL σ))) (zqR (.ref (rf (r_X8_refusalOf_13 σ w1 w2 w3 w4)))) 0 0 (fun _ => False) := by
  refine zmet (by decide) rfl (Nat.le_of_ble_eq_true rfl) rfl (fun p e s m below meth c ls X hml hr hlocks hv hl => ?_)
  obtain ⟨hK, hE, hW⟩ := hv
  obtain ⟨hx, hb, -, -⟩ := id X
  have hl : lv_has ls 6 [(0, .ref (ad 0 0)), (1, .int 13), (2, .int w1), (3, .int w2), (4, .int w3), (5, .int w4)] := hl
  refine lv_iload_n hx hb dX8_refusalOf_0 rfl (lv_at hl 1 rfl) ?_
  refine lv_tableIn (off := 217) (tgt := 218) hx hb dX8_refusalOf_1 (by decide) (by decide) rfl (by decide) ?_
  refine lv_aload_n hx hb dX8_refusalOf_218 rfl (lv_at hl 0 rfl) ?_
  refine lv_iload_n hx hb dX8_refusalOf_219 rfl (lv_at hl 2 rfl) ?_
  refine zcallRSe (As := [.ref (ad 0 0), .int w1]) (rest := []) X hml hK hE hW (ctX8_ofWiden l D cy rf ad σ w1 hV) zmX8_ofWiden (by decide) m_445 ⟨Nat.le_of_ble_eq_true rfl, Nat.le_of_ble_eq_true rfl⟩ ⟨Nat.zero_le _, Nat.zero_le _⟩ rfl hl.1 rfl (Nat.le_of_ble_eq_true rfl) dX8_refusalOf_220 ?_
  exact ze_a hx hb hr hlocks (by rw [r_X8_refusalOf_13]) dX8_refusalOf_223
def r_X8_refusalOf_14 (σ : zS) (w1 : Int32) (w2 : Int32) (w3 : Int32) (w4 : Int32) : Nat := (r_X8_ofTellCause σ w1 w2)
theorem r_X8_refusalOf_14_lt (σ : zS) (w1 : Int32) (w2 : Int32) (w3 : Int32) (w4 : Int32) : r_X8_refusalOf_14 σ w1 w2 w3 w4 < 5 := by
  unfold r_X8_refusalOf_14
  (repeat' split) <;> first | decide | exact r_X8_ofTellCause_lt ..
set_option maxRecDepth 100000 in
set_option maxHeartbeats 4000000 in
theorem ctX8_refusalOf_14 (l : Launch) (D : va_G) (cy : Nat → ClassId) (rf : Nat → Nat) (ad : Nat → Nat → Nat) (σ : zS) (w1 : Int32) (w2 : Int32) (w3 : Int32) (w4 : Int32) (hV : zV σ) : Met l yX8_refusalOf (zw yX8_refusalOf cX8_refusalOf 6 (some (.object "Silkloft$Refusal"))) (zrm 6) (va_Pc [.ref (ad 0 0), .int 14, .int w1, .int w2, .int w3, .int w4] (zBE D cy rf (zW D cy ad zsL σ))) (zqR (.ref (rf (r_X8_refusalOf_14 σ w1 w2 w3 w4)))) 0 0 (fun _ => False) := by
  refine zmet (by decide) rfl (Nat.le_of_ble_eq_true rfl) rfl (fun p e s m below meth c ls X hml hr hlocks hv hl => ?_)
  obtain ⟨hK, hE, hW⟩ := hv
  obtain ⟨hx, hb, -, -⟩ := id X
  have hl : lv_has ls 6 [(0, .ref (ad 0 0)), (1, .int 14), (2, .int w1), (3, .int w2), (4, .int w3), (5, .int w4)] := hl
  refine lv_iload_n hx hb dX8_refusalOf_0 rfl (lv_at hl 1 rfl) ?_
  refine lv_tableIn (off := 223) (tgt := 224) hx hb dX8_refusalOf_1 (by decide) (by decide) rfl (by decide) ?_
  refine lv_aload_n hx hb dX8_refusalOf_224 rfl (lv_at hl 0 rfl) ?_
  refine lv_iload_n hx hb dX8_refusalOf_225 rfl (lv_at hl 2 rfl) ?_
  refine lv_iload_n hx hb dX8_refusalOf_226 rfl (lv_at hl 3 rfl) ?_
  refine zcallRSe (As := [.ref (ad 0 0), .int w1, .int w2]) (rest := []) X hml hK hE hW (ctX8_ofTellCause l D cy rf ad σ w1 w2 hV) zmX8_ofTellCause (by decide) m_452 ⟨Nat.le_of_ble_eq_true rfl, Nat.le_of_ble_eq_true rfl⟩ ⟨Nat.zero_le _, Nat.zero_le _⟩ rfl hl.1 rfl (Nat.le_of_ble_eq_true rfl) dX8_refusalOf_227 ?_
  exact ze_a hx hb hr hlocks (by rw [r_X8_refusalOf_14]) dX8_refusalOf_230
def r_X8_refusalOf_15 (σ : zS) (w1 : Int32) (w2 : Int32) (w3 : Int32) (w4 : Int32) : Nat := if k_has σ 508 w1 = false then 1 else 0
theorem r_X8_refusalOf_15_lt (σ : zS) (w1 : Int32) (w2 : Int32) (w3 : Int32) (w4 : Int32) : r_X8_refusalOf_15 σ w1 w2 w3 w4 < 5 := by
  unfold r_X8_refusalOf_15
  (repeat' split) <;> first | decide
set_option maxRecDepth 100000 in
set_option maxHeartbeats 4000000 in
theorem ctX8_refusalOf_15 (l : Launch) (D : va_G) (cy : Nat → ClassId) (rf : Nat → Nat) (ad : Nat → Nat → Nat) (σ : zS) (w1 : Int32) (w2 : Int32) (w3 : Int32) (w4 : Int32) (hV : zV σ) : Met l yX8_refusalOf (zw yX8_refusalOf cX8_refusalOf 6 (some (.object "Silkloft$Refusal"))) (zrm 6) (va_Pc [.ref (ad 0 0), .int 15, .int w1, .int w2, .int w3, .int w4] (zBE D cy rf (zW D cy ad zsL σ))) (zqR (.ref (rf (r_X8_refusalOf_15 σ w1 w2 w3 w4)))) 0 0 (fun _ => False) := by
  refine zmet (by decide) rfl (Nat.le_of_ble_eq_true rfl) rfl (fun p e s m below meth c ls X hml hr hlocks hv hl => ?_)
  obtain ⟨hK, hE, hW⟩ := hv
  obtain ⟨hx, hb, -, -⟩ := id X
  have hl : lv_has ls 6 [(0, .ref (ad 0 0)), (1, .int 15), (2, .int w1), (3, .int w2), (4, .int w3), (5, .int w4)] := hl
  refine lv_iload_n hx hb dX8_refusalOf_0 rfl (lv_at hl 1 rfl) ?_
  refine lv_tableIn (off := 230) (tgt := 231) hx hb dX8_refusalOf_1 (by decide) (by decide) rfl (by decide) ?_
  refine lv_aload_n hx hb dX8_refusalOf_231 rfl (lv_at hl 0 rfl) ?_
  refine lv_iload_n hx hb dX8_refusalOf_232 rfl (lv_at hl 2 rfl) ?_
  refine zcallRV (As := [.int w1]) (rest := []) X hml hK hW (ctX5_hasFinding l D cy ad σ w1) zmX5_hasFinding (by decide) m_448 (zrecv hK (hW 0 0 rfl (by decide)) rfl) ⟨Nat.le_of_ble_eq_true rfl, Nat.le_of_ble_eq_true rfl⟩ ⟨Nat.zero_le _, Nat.zero_le _⟩ rfl hl.1 rfl (Nat.le_of_ble_eq_true rfl) dX8_refusalOf_233 ?_
  refine zb_eq (tgt := 245) hx hb dX8_refusalOf_236 (by decide) (fun b1 => ?_) (fun b1 => ?_)
  · refine zgetE X hE (va_S.rf) 1 (by decide) rfl m_362 dX8_refusalOf_245 ?_
    exact ze_a hx hb hr hlocks (by rw [r_X8_refusalOf_15, if_pos b1]) dX8_refusalOf_248
  · refine zgetE X hE (va_S.rf) 0 (by decide) rfl m_351 dX8_refusalOf_239 ?_
    refine lv_goto (tgt := 248) hx hb dX8_refusalOf_242 (by decide) ?_
    exact ze_a hx hb hr hlocks (by rw [r_X8_refusalOf_15, if_neg (by simp [b1])]) dX8_refusalOf_248
def r_X8_refusalOf_16 (σ : zS) (w1 : Int32) (w2 : Int32) (w3 : Int32) (w4 : Int32) : Nat := (r_X8_ofRepair σ w1 w2)
theorem r_X8_refusalOf_16_lt (σ : zS) (w1 : Int32) (w2 : Int32) (w3 : Int32) (w4 : Int32) : r_X8_refusalOf_16 σ w1 w2 w3 w4 < 5 := by
  unfold r_X8_refusalOf_16
  (repeat' split) <;> first | decide | exact r_X8_ofRepair_lt ..
set_option maxRecDepth 100000 in
set_option maxHeartbeats 4000000 in
theorem ctX8_refusalOf_16 (l : Launch) (D : va_G) (cy : Nat → ClassId) (rf : Nat → Nat) (ad : Nat → Nat → Nat) (σ : zS) (w1 : Int32) (w2 : Int32) (w3 : Int32) (w4 : Int32) (hV : zV σ) : Met l yX8_refusalOf (zw yX8_refusalOf cX8_refusalOf 6 (some (.object "Silkloft$Refusal"))) (zrm 6) (va_Pc [.ref (ad 0 0), .int 16, .int w1, .int w2, .int w3, .int w4] (zBE D cy rf (zW D cy ad zsL σ))) (zqR (.ref (rf (r_X8_refusalOf_16 σ w1 w2 w3 w4)))) 0 0 (fun _ => False) := by
  refine zmet (by decide) rfl (Nat.le_of_ble_eq_true rfl) rfl (fun p e s m below meth c ls X hml hr hlocks hv hl => ?_)
  obtain ⟨hK, hE, hW⟩ := hv
  obtain ⟨hx, hb, -, -⟩ := id X
  have hl : lv_has ls 6 [(0, .ref (ad 0 0)), (1, .int 16), (2, .int w1), (3, .int w2), (4, .int w3), (5, .int w4)] := hl
  refine lv_iload_n hx hb dX8_refusalOf_0 rfl (lv_at hl 1 rfl) ?_
  refine lv_tableIn (off := 248) (tgt := 249) hx hb dX8_refusalOf_1 (by decide) (by decide) rfl (by decide) ?_
  refine lv_aload_n hx hb dX8_refusalOf_249 rfl (lv_at hl 0 rfl) ?_
  refine lv_iload_n hx hb dX8_refusalOf_250 rfl (lv_at hl 2 rfl) ?_
  refine lv_iload_n hx hb dX8_refusalOf_251 rfl (lv_at hl 3 rfl) ?_
  refine zcallRSe (As := [.ref (ad 0 0), .int w1, .int w2]) (rest := []) X hml hK hE hW (ctX8_ofRepair l D cy rf ad σ w1 w2 hV) zmX8_ofRepair (by decide) m_455 ⟨Nat.le_of_ble_eq_true rfl, Nat.le_of_ble_eq_true rfl⟩ ⟨Nat.zero_le _, Nat.zero_le _⟩ rfl hl.1 rfl (Nat.le_of_ble_eq_true rfl) dX8_refusalOf_252 ?_
  exact ze_a hx hb hr hlocks (by rw [r_X8_refusalOf_16]) dX8_refusalOf_255
def r_X8_refusalOf_17 (σ : zS) (w1 : Int32) (w2 : Int32) (w3 : Int32) (w4 : Int32) : Nat := (r_X8_ofCanopyIn σ w1 107)
theorem r_X8_refusalOf_17_lt (σ : zS) (w1 : Int32) (w2 : Int32) (w3 : Int32) (w4 : Int32) : r_X8_refusalOf_17 σ w1 w2 w3 w4 < 5 := by
  unfold r_X8_refusalOf_17
  (repeat' split) <;> first | decide | exact r_X8_ofCanopyIn_lt ..
set_option maxRecDepth 100000 in
set_option maxHeartbeats 4000000 in
theorem ctX8_refusalOf_17 (l : Launch) (D : va_G) (cy : Nat → ClassId) (rf : Nat → Nat) (ad : Nat → Nat → Nat) (σ : zS) (w1 : Int32) (w2 : Int32) (w3 : Int32) (w4 : Int32) (hV : zV σ) : Met l yX8_refusalOf (zw yX8_refusalOf cX8_refusalOf 6 (some (.object "Silkloft$Refusal"))) (zrm 6) (va_Pc [.ref (ad 0 0), .int 17, .int w1, .int w2, .int w3, .int w4] (zBE D cy rf (zW D cy ad zsL σ))) (zqR (.ref (rf (r_X8_refusalOf_17 σ w1 w2 w3 w4)))) 0 0 (fun _ => False) := by
  refine zmet (by decide) rfl (Nat.le_of_ble_eq_true rfl) rfl (fun p e s m below meth c ls X hml hr hlocks hv hl => ?_)
  obtain ⟨hK, hE, hW⟩ := hv
  obtain ⟨hx, hb, -, -⟩ := id X
  have hl : lv_has ls 6 [(0, .ref (ad 0 0)), (1, .int 17), (2, .int w1), (3, .int w2), (4, .int w3), (5, .int w4)] := hl
  refine lv_iload_n hx hb dX8_refusalOf_0 rfl (lv_at hl 1 rfl) ?_
  refine lv_tableIn (off := 255) (tgt := 256) hx hb dX8_refusalOf_1 (by decide) (by decide) rfl (by decide) ?_
  refine lv_aload_n hx hb dX8_refusalOf_256 rfl (lv_at hl 0 rfl) ?_
  refine lv_iload_n hx hb dX8_refusalOf_257 rfl (lv_at hl 2 rfl) ?_
  refine lv_bipush (v := 107) hx hb dX8_refusalOf_258 (by decide) ?_
  refine zcallRSe (As := [.ref (ad 0 0), .int w1, .int 107]) (rest := []) X hml hK hE hW (ctX8_ofCanopyIn l D cy rf ad σ w1 107 hV) zmX8_ofCanopyIn (by decide) m_390 ⟨Nat.le_of_ble_eq_true rfl, Nat.le_of_ble_eq_true rfl⟩ ⟨Nat.zero_le _, Nat.zero_le _⟩ rfl hl.1 rfl (Nat.le_of_ble_eq_true rfl) dX8_refusalOf_260 ?_
  exact ze_a hx hb hr hlocks (by rw [r_X8_refusalOf_17]) dX8_refusalOf_263
def r_X8_refusalOf_18 (σ : zS) (w1 : Int32) (w2 : Int32) (w3 : Int32) (w4 : Int32) : Nat := (r_X8_ofHire σ w1 w2 w3)
theorem r_X8_refusalOf_18_lt (σ : zS) (w1 : Int32) (w2 : Int32) (w3 : Int32) (w4 : Int32) : r_X8_refusalOf_18 σ w1 w2 w3 w4 < 5 := by
  unfold r_X8_refusalOf_18
  (repeat' split) <;> first | decide | exact r_X8_ofHire_lt ..
set_option maxRecDepth 100000 in
set_option maxHeartbeats 4000000 in
theorem ctX8_refusalOf_18 (l : Launch) (D : va_G) (cy : Nat → ClassId) (rf : Nat → Nat) (ad : Nat → Nat → Nat) (σ : zS) (w1 : Int32) (w2 : Int32) (w3 : Int32) (w4 : Int32) (hV : zV σ) : Met l yX8_refusalOf (zw yX8_refusalOf cX8_refusalOf 6 (some (.object "Silkloft$Refusal"))) (zrm 6) (va_Pc [.ref (ad 0 0), .int 18, .int w1, .int w2, .int w3, .int w4] (zBE D cy rf (zW D cy ad zsL σ))) (zqR (.ref (rf (r_X8_refusalOf_18 σ w1 w2 w3 w4)))) 0 0 (fun _ => False) := by
  refine zmet (by decide) rfl (Nat.le_of_ble_eq_true rfl) rfl (fun p e s m below meth c ls X hml hr hlocks hv hl => ?_)
  obtain ⟨hK, hE, hW⟩ := hv
  obtain ⟨hx, hb, -, -⟩ := id X
  have hl : lv_has ls 6 [(0, .ref (ad 0 0)), (1, .int 18), (2, .int w1), (3, .int w2), (4, .int w3), (5, .int w4)] := hl
  refine lv_iload_n hx hb dX8_refusalOf_0 rfl (lv_at hl 1 rfl) ?_
  refine lv_tableIn (off := 263) (tgt := 264) hx hb dX8_refusalOf_1 (by decide) (by decide) rfl (by decide) ?_
  refine lv_aload_n hx hb dX8_refusalOf_264 rfl (lv_at hl 0 rfl) ?_
  refine lv_iload_n hx hb dX8_refusalOf_265 rfl (lv_at hl 2 rfl) ?_
  refine lv_iload_n hx hb dX8_refusalOf_266 rfl (lv_at hl 3 rfl) ?_
  refine lv_iload hx hb dX8_refusalOf_267 (lv_at hl 4 rfl) ?_
  refine zcallRSe (As := [.ref (ad 0 0), .int w1, .int w2, .int w3]) (rest := []) X hml hK hE hW (ctX8_ofHire l D cy rf ad σ w1 w2 w3 hV) zmX8_ofHire (by decide) m_458 ⟨Nat.le_of_ble_eq_true rfl, Nat.le_of_ble_eq_true rfl⟩ ⟨Nat.zero_le _, Nat.zero_le _⟩ rfl hl.1 rfl (Nat.le_of_ble_eq_true rfl) dX8_refusalOf_269 ?_
  exact ze_a hx hb hr hlocks (by rw [r_X8_refusalOf_18]) dX8_refusalOf_272
def r_X8_refusalOf_19 (σ : zS) (w1 : Int32) (w2 : Int32) (w3 : Int32) (w4 : Int32) : Nat := (r_X8_ofCanopyIn σ w1 104)
theorem r_X8_refusalOf_19_lt (σ : zS) (w1 : Int32) (w2 : Int32) (w3 : Int32) (w4 : Int32) : r_X8_refusalOf_19 σ w1 w2 w3 w4 < 5 := by
  unfold r_X8_refusalOf_19
  (repeat' split) <;> first | decide | exact r_X8_ofCanopyIn_lt ..
set_option maxRecDepth 100000 in
set_option maxHeartbeats 4000000 in
theorem ctX8_refusalOf_19 (l : Launch) (D : va_G) (cy : Nat → ClassId) (rf : Nat → Nat) (ad : Nat → Nat → Nat) (σ : zS) (w1 : Int32) (w2 : Int32) (w3 : Int32) (w4 : Int32) (hV : zV σ) : Met l yX8_refusalOf (zw yX8_refusalOf cX8_refusalOf 6 (some (.object "Silkloft$Refusal"))) (zrm 6) (va_Pc [.ref (ad 0 0), .int 19, .int w1, .int w2, .int w3, .int w4] (zBE D cy rf (zW D cy ad zsL σ))) (zqR (.ref (rf (r_X8_refusalOf_19 σ w1 w2 w3 w4)))) 0 0 (fun _ => False) := by
  refine zmet (by decide) rfl (Nat.le_of_ble_eq_true rfl) rfl (fun p e s m below meth c ls X hml hr hlocks hv hl => ?_)
  obtain ⟨hK, hE, hW⟩ := hv
  obtain ⟨hx, hb, -, -⟩ := id X
  have hl : lv_has ls 6 [(0, .ref (ad 0 0)), (1, .int 19), (2, .int w1), (3, .int w2), (4, .int w3), (5, .int w4)] := hl
  refine lv_iload_n hx hb dX8_refusalOf_0 rfl (lv_at hl 1 rfl) ?_
  refine lv_tableIn (off := 272) (tgt := 273) hx hb dX8_refusalOf_1 (by decide) (by decide) rfl (by decide) ?_
  refine lv_aload_n hx hb dX8_refusalOf_273 rfl (lv_at hl 0 rfl) ?_
  refine lv_iload_n hx hb dX8_refusalOf_274 rfl (lv_at hl 2 rfl) ?_
  refine lv_bipush (v := 104) hx hb dX8_refusalOf_275 (by decide) ?_
  refine zcallRSe (As := [.ref (ad 0 0), .int w1, .int 104]) (rest := []) X hml hK hE hW (ctX8_ofCanopyIn l D cy rf ad σ w1 104 hV) zmX8_ofCanopyIn (by decide) m_390 ⟨Nat.le_of_ble_eq_true rfl, Nat.le_of_ble_eq_true rfl⟩ ⟨Nat.zero_le _, Nat.zero_le _⟩ rfl hl.1 rfl (Nat.le_of_ble_eq_true rfl) dX8_refusalOf_277 ?_
  exact ze_a hx hb hr hlocks (by rw [r_X8_refusalOf_19]) dX8_refusalOf_280
