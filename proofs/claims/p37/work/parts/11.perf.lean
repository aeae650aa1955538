theorem zmX5_perform : zmV yX5_perform RX5 cX5_perform 6 (some .int) 5 := ⟨m_463, m_464, m_2, m_465, rfl, by decide, by decide, by decide +kernel⟩
def f_X5_perform_0 (σ : zS) (w1 : Int32) (w2 : Int32) (w3 : Int32) (w4 : Int32) : zS := (f_X5_enrol (zpI σ 512 0 ((zI σ 512 0) + 1)) w1 w2)
def r_X5_perform_0 (σ : zS) (w1 : Int32) (w2 : Int32) (w3 : Int32) (w4 : Int32) : Int32 := r_X5_enrol (zpI σ 512 0 ((zI σ 512 0) + 1)) w1 w2
set_option maxRecDepth 100000 in
set_option maxHeartbeats 4000000 in
theorem ctX5_perform_0 (l : Launch) (D : va_G) (cy : Nat → ClassId) (ad : Nat → Nat → Nat) (σ : zS) (hj : zinj ad zsL) (w1 : Int32) (w2 : Int32) (w3 : Int32) (w4 : Int32) (h1 : vp_in (zI σ 505 0) 8) : Met l yX5_perform (zw yX5_perform cX5_perform 6 (some .int)) (zrm 4) (va_Pc [.ref (ad 0 0), .int 0, .int w1, .int w2, .int w3, .int w4] (zB D cy (zW D cy ad zsL σ))) (zqM (some (.int (r_X5_perform_0 σ w1 w2 w3 w4))) (zW D cy ad zsL (f_X5_perform_0 σ w1 w2 w3 w4)) (zrg ad zsL)) 0 0 (zrg ad zsL) := by
  refine zmet (by decide) rfl (Nat.le_of_ble_eq_true rfl) rfl (fun p e s m below meth c ls X hml hr hlocks hv hl => ?_)
  obtain ⟨hK, hW⟩ := hv
  obtain ⟨hx, hb, -, -⟩ := id X
  have hl : lv_has ls 6 [(0, .ref (ad 0 0)), (1, .int 0), (2, .int w1), (3, .int w2), (4, .int w3), (5, .int w4)] := hl
  have hS : va_S (zrg ad zsL) s.heap s.heap [] := va_S.rf
  generalize hAe : zrg ad zsL = A at hS ⊢
  have hA : ∀ q, zrg ad zsL q → A q := fun q h => by rw [← hAe]; exact h
  refine lv_aload_n hx hb dX5_perform_0 rfl (lv_at hl 0 rfl) ?_
  refine lv_dup hx hb dX5_perform_1 rfl ?_
  refine zg5_12 X hK hW m_269 dX5_perform_2 ?_
  refine lv_iconst (v := 1) hx hb dX5_perform_5 (by decide) ?_
  refine lv_iadd hx hb dX5_perform_6 ?_
  refine zp5_12 X hK hW hj hA hS m_269 dX5_perform_7 (fun H locs hW hS => ?_)
  refine lv_iload_n hx hb dX5_perform_10 rfl (lv_at hl 1 rfl) ?_
  refine lv_tableIn (off := 93) (tgt := 104) hx hb dX5_perform_11 (by decide) (by decide) rfl (by decide) ?_
  refine lv_aload_n hx hb dX5_perform_104 rfl (lv_at hl 0 rfl) ?_
  refine lv_iload_n hx hb dX5_perform_105 rfl (lv_at hl 2 rfl) ?_
  refine lv_iload_n hx hb dX5_perform_106 rfl (lv_at hl 3 rfl) ?_
  refine zcallMV (As := [.int w1, .int w2]) (rest := []) X hml hK hW (ctX5_enrol l D cy ad (zpI σ 512 0 ((zI σ 512 0) + 1)) hj w1 w2 h1) zmX5_enrol (by decide) m_466 (zrecv hK (hW 0 0 rfl (by decide)) rfl) ⟨Nat.le_of_ble_eq_true rfl, Nat.le_of_ble_eq_true rfl⟩ ⟨Nat.zero_le _, Nat.zero_le _⟩ rfl hl.1 rfl (Nat.le_of_ble_eq_true rfl) dX5_perform_107 hS hA (fun H locs hW hsz hfr hS => ?_)
  exact zm_i hx hb hr hlocks (by rw [r_X5_perform_0]) (by rw [f_X5_perform_0]; exact hW) hS dX5_perform_110
def f_X5_perform_1 (σ : zS) (w1 : Int32) (w2 : Int32) (w3 : Int32) (w4 : Int32) : zS := (f_X5_relicense (zpI σ 512 0 ((zI σ 512 0) + 1)) w1 w2 w3)
def r_X5_perform_1 (σ : zS) (w1 : Int32) (w2 : Int32) (w3 : Int32) (w4 : Int32) : Int32 := r_X5_relicense (zpI σ 512 0 ((zI σ 512 0) + 1)) w1 w2 w3
set_option maxRecDepth 100000 in
set_option maxHeartbeats 4000000 in
theorem ctX5_perform_1 (l : Launch) (D : va_G) (cy : Nat → ClassId) (ad : Nat → Nat → Nat) (σ : zS) (hj : zinj ad zsL) (w1 : Int32) (w2 : Int32) (w3 : Int32) (w4 : Int32) (h1 : vp_in w1 8) : Met l yX5_perform (zw yX5_perform cX5_perform 6 (some .int)) (zrm 4) (va_Pc [.ref (ad 0 0), .int 1, .int w1, .int w2, .int w3, .int w4] (zB D cy (zW D cy ad zsL σ))) (zqM (some (.int (r_X5_perform_1 σ w1 w2 w3 w4))) (zW D cy ad zsL (f_X5_perform_1 σ w1 w2 w3 w4)) (zrg ad zsL)) 0 0 (zrg ad zsL) := by
  refine zmet (by decide) rfl (Nat.le_of_ble_eq_true rfl) rfl (fun p e s m below meth c ls X hml hr hlocks hv hl => ?_)
  obtain ⟨hK, hW⟩ := hv
  obtain ⟨hx, hb, -, -⟩ := id X
  have hl : lv_has ls 6 [(0, .ref (ad 0 0)), (1, .int 1), (2, .int w1), (3, .int w2), (4, .int w3), (5, .int w4)] := hl
  have hS : va_S (zrg ad zsL) s.heap s.heap [] := va_S.rf
  generalize hAe : zrg ad zsL = A at hS ⊢
  have hA : ∀ q, zrg ad zsL q → A q := fun q h => by rw [← hAe]; exact h
  refine lv_aload_n hx hb dX5_perform_0 rfl (lv_at hl 0 rfl) ?_
  refine lv_dup hx hb dX5_perform_1 rfl ?_
  refine zg5_12 X hK hW m_269 dX5_perform_2 ?_
  refine lv_iconst (v := 1) hx hb dX5_perform_5 (by decide) ?_
  refine lv_iadd hx hb dX5_perform_6 ?_
  refine zp5_12 X hK hW hj hA hS m_269 dX5_perform_7 (fun H locs hW hS => ?_)
  refine lv_iload_n hx hb dX5_perform_10 rfl (lv_at hl 1 rfl) ?_
  refine lv_tableIn (off := 100) (tgt := 111) hx hb dX5_perform_11 (by decide) (by decide) rfl (by decide) ?_
  refine lv_aload_n hx hb dX5_perform_111 rfl (lv_at hl 0 rfl) ?_
  refine lv_iload_n hx hb dX5_perform_112 rfl (lv_at hl 2 rfl) ?_
  refine lv_iload_n hx hb dX5_perform_113 rfl (lv_at hl 3 rfl) ?_
  refine lv_iload hx hb dX5_perform_114 (lv_at hl 4 rfl) ?_
  refine zcallMV (As := [.int w1, .int w2, .int w3]) (rest := []) X hml hK hW (ctX5_relicense l D cy ad (zpI σ 512 0 ((zI σ 512 0) + 1)) hj w1 w2 w3 h1) zmX5_relicense (by decide) m_474 (zrecv hK (hW 0 0 rfl (by decide)) rfl) ⟨Nat.le_of_ble_eq_true rfl, Nat.le_of_ble_eq_true rfl⟩ ⟨Nat.zero_le _, Nat.zero_le _⟩ rfl hl.1 rfl (Nat.le_of_ble_eq_true rfl) dX5_perform_116 hS hA (fun H locs hW hsz hfr hS => ?_)
  exact zm_i hx hb hr hlocks (by rw [r_X5_perform_1]) (by rw [f_X5_perform_1]; exact hW) hS dX5_perform_119
def f_X5_perform_2 (σ : zS) (w1 : Int32) (w2 : Int32) (w3 : Int32) (w4 : Int32) : zS := (f_X5_enter (zpI σ 512 0 ((zI σ 512 0) + 1)) ((w1.toUInt32 % 65536).toInt32) w2 w3 w4)
def r_X5_perform_2 (σ : zS) (w1 : Int32) (w2 : Int32) (w3 : Int32) (w4 : Int32) : Int32 := r_X5_enter (zpI σ 512 0 ((zI σ 512 0) + 1)) ((w1.toUInt32 % 65536).toInt32) w2 w3 w4
set_option maxRecDepth 100000 in
set_option maxHeartbeats 4000000 in
theorem ctX5_perform_2 (l : Launch) (D : va_G) (cy : Nat → ClassId) (ad : Nat → Nat → Nat) (σ : zS) (hj : zinj ad zsL) (w1 : Int32) (w2 : Int32) (w3 : Int32) (w4 : Int32) (h1 : vp_in (zI σ 506 0) 24) : Met l yX5_perform (zw yX5_perform cX5_perform 6 (some .int)) (zrm 4) (va_Pc [.ref (ad 0 0), .int 2, .int w1, .int w2, .int w3, .int w4] (zB D cy (zW D cy ad zsL σ))) (zqM (some (.int (r_X5_perform_2 σ w1 w2 w3 w4))) (zW D cy ad zsL (f_X5_perform_2 σ w1 w2 w3 w4)) (zrg ad zsL)) 0 0 (zrg ad zsL) := by
  refine zmet (by decide) rfl (Nat.le_of_ble_eq_true rfl) rfl (fun p e s m below meth c ls X hml hr hlocks hv hl => ?_)
  obtain ⟨hK, hW⟩ := hv
  obtain ⟨hx, hb, -, -⟩ := id X
  have hl : lv_has ls 6 [(0, .ref (ad 0 0)), (1, .int 2), (2, .int w1), (3, .int w2), (4, .int w3), (5, .int w4)] := hl
  have hS : va_S (zrg ad zsL) s.heap s.heap [] := va_S.rf
  generalize hAe : zrg ad zsL = A at hS ⊢
  have hA : ∀ q, zrg ad zsL q → A q := fun q h => by rw [← hAe]; exact h
  refine lv_aload_n hx hb dX5_perform_0 rfl (lv_at hl 0 rfl) ?_
  refine lv_dup hx hb dX5_perform_1 rfl ?_
  refine zg5_12 X hK hW m_269 dX5_perform_2 ?_
  refine lv_iconst (v := 1) hx hb dX5_perform_5 (by decide) ?_
  refine lv_iadd hx hb dX5_perform_6 ?_
  refine zp5_12 X hK hW hj hA hS m_269 dX5_perform_7 (fun H locs hW hS => ?_)
  refine lv_iload_n hx hb dX5_perform_10 rfl (lv_at hl 1 rfl) ?_
  refine lv_tableIn (off := 109) (tgt := 120) hx hb dX5_perform_11 (by decide) (by decide) rfl (by decide) ?_
  refine lv_aload_n hx hb dX5_perform_120 rfl (lv_at hl 0 rfl) ?_
  refine lv_iload_n hx hb dX5_perform_121 rfl (lv_at hl 2 rfl) ?_
  refine lv_i2c (v := (w1.toUInt32 % 65536).toInt32) hx hb dX5_perform_122 rfl ?_
  refine lv_iload_n hx hb dX5_perform_123 rfl (lv_at hl 3 rfl) ?_
  refine lv_iload hx hb dX5_perform_124 (lv_at hl 4 rfl) ?_
  refine lv_iload hx hb dX5_perform_126 (lv_at hl 5 rfl) ?_
  refine zcallMV (As := [.int ((w1.toUInt32 % 65536).toInt32), .int w2, .int w3, .int w4]) (rest := []) X hml hK hW (ctX5_enter l D cy ad (zpI σ 512 0 ((zI σ 512 0) + 1)) hj ((w1.toUInt32 % 65536).toInt32) w2 w3 w4 h1 ⟨pk_nc w1, pk_fc w1⟩) zmX5_enter (by decide) m_478 (zrecv hK (hW 0 0 rfl (by decide)) rfl) ⟨Nat.le_of_ble_eq_true rfl, Nat.le_of_ble_eq_true rfl⟩ ⟨Nat.zero_le _, Nat.zero_le _⟩ rfl hl.1 rfl (Nat.le_of_ble_eq_true rfl) dX5_perform_128 hS hA (fun H locs hW hsz hfr hS => ?_)
  exact zm_i hx hb hr hlocks (by rw [r_X5_perform_2]) (by rw [f_X5_perform_2]; exact hW) hS dX5_perform_131
def f_X5_perform_3 (σ : zS) (w1 : Int32) (w2 : Int32) (w3 : Int32) (w4 : Int32) : zS := (f_X5_changePeriod (zpI σ 512 0 ((zI σ 512 0) + 1)) w1)
def r_X5_perform_3 (σ : zS) (w1 : Int32) (w2 : Int32) (w3 : Int32) (w4 : Int32) : Int32 := r_X5_changePeriod (zpI σ 512 0 ((zI σ 512 0) + 1)) w1
set_option maxRecDepth 100000 in
set_option maxHeartbeats 4000000 in
theorem ctX5_perform_3 (l : Launch) (D : va_G) (cy : Nat → ClassId) (ad : Nat → Nat → Nat) (σ : zS) (hj : zinj ad zsL) (w1 : Int32) (w2 : Int32) (w3 : Int32) (w4 : Int32) : Met l yX5_perform (zw yX5_perform cX5_perform 6 (some .int)) (zrm 4) (va_Pc [.ref (ad 0 0), .int 3, .int w1, .int w2, .int w3, .int w4] (zB D cy (zW D cy ad zsL σ))) (zqM (some (.int (r_X5_perform_3 σ w1 w2 w3 w4))) (zW D cy ad zsL (f_X5_perform_3 σ w1 w2 w3 w4)) (zrg ad zsL)) 0 0 (zrg ad zsL) := by
  refine zmet (by decide) rfl (Nat.le_of_ble_eq_true rfl) rfl (fun p e s m below meth c ls X hml hr hlocks hv hl => ?_)
  obtain ⟨hK, hW⟩ := hv
  obtain ⟨hx, hb, -, -⟩ := id X
  have hl : lv_has ls 6 [(0, .ref (ad 0 0)), (1, .int 3), (2, .int w1), (3, .int w2), (4, .int w3), (5, .int w4)] := hl
  have hS : va_S (zrg ad zsL) s.heap s.heap [] := va_S.rf
  generalize hAe : zrg ad zsL = A at hS ⊢
  have hA : ∀ q, zrg ad zsL q → A q := fun q h => by rw [← hAe]; exact h
  refine lv_aload_n hx hb dX5_perform_0 rfl (lv_at hl 0 rfl) ?_
  refine lv_dup hx hb dX5_perform_1 rfl ?_
  refine zg5_12 X hK hW m_269 dX5_perform_2 ?_
  refine lv_iconst (v := 1) hx hb dX5_perform_5 (by decide) ?_
  refine lv_iadd hx hb dX5_perform_6 ?_
  refine zp5_12 X hK hW hj hA hS m_269 dX5_perform_7 (fun H locs hW hS => ?_)
  refine lv_iload_n hx hb dX5_perform_10 rfl (lv_at hl 1 rfl) ?_
  refine lv_tableIn (off := 121) (tgt := 132) hx hb dX5_perform_11 (by decide) (by decide) rfl (by decide) ?_
  refine lv_aload_n hx hb dX5_perform_132 rfl (lv_at hl 0 rfl) ?_
  refine lv_iload_n hx hb dX5_perform_133 rfl (lv_at hl 2 rfl) ?_
  refine zcallMV (As := [.int w1]) (rest := []) X hml hK hW (ctX5_changePeriod l D cy ad (zpI σ 512 0 ((zI σ 512 0) + 1)) hj w1) zmX5_changePeriod (by decide) m_486 (zrecv hK (hW 0 0 rfl (by decide)) rfl) ⟨Nat.le_of_ble_eq_true rfl, Nat.le_of_ble_eq_true rfl⟩ ⟨Nat.zero_le _, Nat.zero_le _⟩ rfl hl.1 rfl (Nat.le_of_ble_eq_true rfl) dX5_perform_134 hS hA (fun H locs hW hsz hfr hS => ?_)
  exact zm_i hx hb hr hlocks (by rw [r_X5_perform_3]) (by rw [f_X5_perform_3]; exact hW) hS dX5_perform_137
def f_X5_perform_4 (σ : zS) (w1 : Int32) (w2 : Int32) (w3 : Int32) (w4 : Int32) : zS := (f_X5_letDaysPass (zpI σ 512 0 ((zI σ 512 0) + 1)) w1)
def r_X5_perform_4 (σ : zS) (w1 : Int32) (w2 : Int32) (w3 : Int32) (w4 : Int32) : Int32 := r_X5_letDaysPass (zpI σ 512 0 ((zI σ 512 0) + 1)) w1
set_option maxRecDepth 100000 in
set_option maxHeartbeats 4000000 in
theorem ctX5_perform_4 (l : Launch) (D : va_G) (cy : Nat → ClassId) (ad : Nat → Nat → Nat) (σ : zS) (hj : zinj ad zsL) (w1 : Int32) (w2 : Int32) (w3 : Int32) (w4 : Int32) : Met l yX5_perform (zw yX5_perform cX5_perform 6 (some .int)) (zrm 4) (va_Pc [.ref (ad 0 0), .int 4, .int w1, .int w2, .int w3, .int w4] (zB D cy (zW D cy ad zsL σ))) (zqM (some (.int (r_X5_perform_4 σ w1 w2 w3 w4))) (zW D cy ad zsL (f_X5_perform_4 σ w1 w2 w3 w4)) (zrg ad zsL)) 0 0 (zrg ad zsL) := by
  refine zmet (by decide) rfl (Nat.le_of_ble_eq_true rfl) rfl (fun p e s m below meth c ls X hml hr hlocks hv hl => ?_)
  obtain ⟨hK, hW⟩ := hv
  obtain ⟨hx, hb, -, -⟩ := id X
  have hl : lv_has ls 6 [(0, .ref (ad 0 0)), (1, .int 4), (2, .int w1), (3, .int w2), (4, .int w3), (5, .int w4)] := hl
  have hS : va_S (zrg ad zsL) s.heap s.heap [] := va_S.rf
  generalize hAe : zrg ad zsL = A at hS ⊢
  have hA : ∀ q, zrg ad zsL q → A q := fun q h => by rw [← hAe]; exact h
  refine lv_aload_n hx hb dX5_perform_0 rfl (lv_at hl 0 rfl) ?_
  refine lv_dup hx hb dX5_perform_1 rfl ?_
  refine zg5_12 X hK hW m_269 dX5_perform_2 ?_
  refine lv_iconst (v := 1) hx hb dX5_perform_5 (by decide) ?_
  refine lv_iadd hx hb dX5_perform_6 ?_
  refine zp5_12 X hK hW hj hA hS m_269 dX5_perform_7 (fun H locs hW hS => ?_)
  refine lv_iload_n hx hb dX5_perform_10 rfl (lv_at hl 1 rfl) ?_
  refine lv_tableIn (off := 127) (tgt := 138) hx hb dX5_perform_11 (by decide) (by decide) rfl (by decide) ?_
  refine lv_aload_n hx hb dX5_perform_138 rfl (lv_at hl 0 rfl) ?_
  refine lv_iload_n hx hb dX5_perform_139 rfl (lv_at hl 2 rfl) ?_
  refine zcallMV (As := [.int w1]) (rest := []) X hml hK hW (ctX5_letDaysPass l D cy ad (zpI σ 512 0 ((zI σ 512 0) + 1)) hj w1) zmX5_letDaysPass (by decide) m_490 (zrecv hK (hW 0 0 rfl (by decide)) rfl) ⟨Nat.le_of_ble_eq_true rfl, Nat.le_of_ble_eq_true rfl⟩ ⟨Nat.zero_le _, Nat.zero_le _⟩ rfl hl.1 rfl (Nat.le_of_ble_eq_true rfl) dX5_perform_140 hS hA (fun H locs hW hsz hfr hS => ?_)
  exact zm_i hx hb hr hlocks (by rw [r_X5_perform_4]) (by rw [f_X5_perform_4]; exact hW) hS dX5_perform_143
def f_X5_perform_5 (σ : zS) (w1 : Int32) (w2 : Int32) (w3 : Int32) (w4 : Int32) : zS := (f_X5_putOnHook (zpI σ 512 0 ((zI σ 512 0) + 1)) w1 w2)
def r_X5_perform_5 (σ : zS) (w1 : Int32) (w2 : Int32) (w3 : Int32) (w4 : Int32) : Int32 := r_X5_putOnHook (zpI σ 512 0 ((zI σ 512 0) + 1)) w1 w2
set_option maxRecDepth 100000 in
set_option maxHeartbeats 4000000 in
theorem ctX5_perform_5 (l : Launch) (D : va_G) (cy : Nat → ClassId) (ad : Nat → Nat → Nat) (σ : zS) (hj : zinj ad zsL) (w1 : Int32) (w2 : Int32) (w3 : Int32) (w4 : Int32) (h1 : vp_in w1 24) (hc : zbd σ 506 24) : Met l yX5_perform (zw yX5_perform cX5_perform 6 (some .int)) (zrm 4) (va_Pc [.ref (ad 0 0), .int 5, .int w1, .int w2, .int w3, .int w4] (zB D cy (zW D cy ad zsL σ))) (zqM (some (.int (r_X5_perform_5 σ w1 w2 w3 w4))) (zW D cy ad zsL (f_X5_perform_5 σ w1 w2 w3 w4)) (zrg ad zsL)) 0 0 (zrg ad zsL) := by
  refine zmet (by decide) rfl (Nat.le_of_ble_eq_true rfl) rfl (fun p e s m below meth c ls X hml hr hlocks hv hl => ?_)
  obtain ⟨hK, hW⟩ := hv
  obtain ⟨hx, hb, -, -⟩ := id X
  have hl : lv_has ls 6 [(0, .ref (ad 0 0)), (1, .int 5), (2, .int w1), (3, .int w2), (4, .int w3), (5, .int w4)] := hl
  have hS : va_S (zrg ad zsL) s.heap s.heap [] := va_S.rf
  generalize hAe : zrg ad zsL = A at hS ⊢
  have hA : ∀ q, zrg ad zsL q → A q := fun q h => by rw [← hAe]; exact h
  refine lv_aload_n hx hb dX5_perform_0 rfl (lv_at hl 0 rfl) ?_
  refine lv_dup hx hb dX5_perform_1 rfl ?_
  refine zg5_12 X hK hW m_269 dX5_perform_2 ?_
  refine lv_iconst (v := 1) hx hb dX5_perform_5 (by decide) ?_
  refine lv_iadd hx hb dX5_perform_6 ?_
  refine zp5_12 X hK hW hj hA hS m_269 dX5_perform_7 (fun H locs hW hS => ?_)
  refine lv_iload_n hx hb dX5_perform_10 rfl (lv_at hl 1 rfl) ?_
  refine lv_tableIn (off := 133) (tgt := 144) hx hb dX5_perform_11 (by decide) (by decide) rfl (by decide) ?_
  refine lv_aload_n hx hb dX5_perform_144 rfl (lv_at hl 0 rfl) ?_
  refine lv_iload_n hx hb dX5_perform_145 rfl (lv_at hl 2 rfl) ?_
  refine lv_iload_n hx hb dX5_perform_146 rfl (lv_at hl 3 rfl) ?_
  refine zcallMV (As := [.int w1, .int w2]) (rest := []) X hml hK hW (ctX5_putOnHook l D cy ad (zpI σ 512 0 ((zI σ 512 0) + 1)) hj w1 w2 h1 (zbd_pI (by decide) hc)) zmX5_putOnHook (by decide) m_494 (zrecv hK (hW 0 0 rfl (by decide)) rfl) ⟨Nat.le_of_ble_eq_true rfl, Nat.le_of_ble_eq_true rfl⟩ ⟨Nat.zero_le _, Nat.zero_le _⟩ rfl hl.1 rfl (Nat.le_of_ble_eq_true rfl) dX5_perform_147 hS hA (fun H locs hW hsz hfr hS => ?_)
  exact zm_i hx hb hr hlocks (by rw [r_X5_perform_5]) (by rw [f_X5_perform_5]; exact hW) hS dX5_perform_150
def f_X5_perform_6 (σ : zS) (w1 : Int32) (w2 : Int32) (w3 : Int32) (w4 : Int32) : zS := (f_X5_doStep (zpI σ 512 0 ((zI σ 512 0) + 1)) w1 w2)
def r_X5_perform_6 (σ : zS) (w1 : Int32) (w2 : Int32) (w3 : Int32) (w4 : Int32) : Int32 := r_X5_doStep (zpI σ 512 0 ((zI σ 512 0) + 1)) w1 w2
set_option maxRecDepth 100000 in
set_option maxHeartbeats 4000000 in
theorem ctX5_perform_6 (l : Launch) (D : va_G) (cy : Nat → ClassId) (ad : Nat → Nat → Nat) (σ : zS) (hj : zinj ad zsL) (w1 : Int32) (w2 : Int32) (w3 : Int32) (w4 : Int32) (h1 : vp_in w1 24) (h2 : vp_in (zI σ 107 w1.toNatClampNeg) 5) (hc : zbd σ 0 86) : Met l yX5_perform (zw yX5_perform cX5_perform 6 (some .int)) (zrm 4) (va_Pc [.ref (ad 0 0), .int 6, .int w1, .int w2, .int w3, .int w4] (zB D cy (zW D cy ad zsL σ))) (zqM (some (.int (r_X5_perform_6 σ w1 w2 w3 w4))) (zW D cy ad zsL (f_X5_perform_6 σ w1 w2 w3 w4)) (zrg ad zsL)) 0 0 (zrg ad zsL) := by
  refine zmet (by decide) rfl (Nat.le_of_ble_eq_true rfl) rfl (fun p e s m below meth c ls X hml hr hlocks hv hl => ?_)
  obtain ⟨hK, hW⟩ := hv
  obtain ⟨hx, hb, -, -⟩ := id X
  have hl : lv_has ls 6 [(0, .ref (ad 0 0)), (1, .int 6), (2, .int w1), (3, .int w2), (4, .int w3), (5, .int w4)] := hl
  have hS : va_S (zrg ad zsL) s.heap s.heap [] := va_S.rf
  generalize hAe : zrg ad zsL = A at hS ⊢
  have hA : ∀ q, zrg ad zsL q → A q := fun q h => by rw [← hAe]; exact h
  refine lv_aload_n hx hb dX5_perform_0 rfl (lv_at hl 0 rfl) ?_
  refine lv_dup hx hb dX5_perform_1 rfl ?_
  refine zg5_12 X hK hW m_269 dX5_perform_2 ?_
  refine lv_iconst (v := 1) hx hb dX5_perform_5 (by decide) ?_
  refine lv_iadd hx hb dX5_perform_6 ?_
  refine zp5_12 X hK hW hj hA hS m_269 dX5_perform_7 (fun H locs hW hS => ?_)
  refine lv_iload_n hx hb dX5_perform_10 rfl (lv_at hl 1 rfl) ?_
  refine lv_tableIn (off := 140) (tgt := 151) hx hb dX5_perform_11 (by decide) (by decide) rfl (by decide) ?_
  refine lv_aload_n hx hb dX5_perform_151 rfl (lv_at hl 0 rfl) ?_
  refine lv_iload_n hx hb dX5_perform_152 rfl (lv_at hl 2 rfl) ?_
  refine lv_iload_n hx hb dX5_perform_153 rfl (lv_at hl 3 rfl) ?_
  refine zcallMV (As := [.int w1, .int w2]) (rest := []) X hml hK hW (ctX5_doStep l D cy ad (zpI σ 512 0 ((zI σ 512 0) + 1)) hj w1 w2 h1 h2 (zbd_pI (by decide) hc)) zmX5_doStep (by decide) m_498 (zrecv hK (hW 0 0 rfl (by decide)) rfl) ⟨Nat.le_of_ble_eq_true rfl, Nat.le_of_ble_eq_true rfl⟩ ⟨Nat.zero_le _, Nat.zero_le _⟩ rfl hl.1 rfl (Nat.le_of_ble_eq_true rfl) dX5_perform_154 hS hA (fun H locs hW hsz hfr hS => ?_)
  exact zm_i hx hb hr hlocks (by rw [r_X5_perform_6]) (by rw [f_X5_perform_6]; exact hW) hS dX5_perform_157
def f_X5_perform_7 (σ : zS) (w1 : Int32) (w2 : Int32) (w3 : Int32) (w4 : Int32) : zS := (f_X5_takeOffHook (zpI σ 512 0 ((zI σ 512 0) + 1)) w1.toNatClampNeg)
def r_X5_perform_7 (σ : zS) (w1 : Int32) (w2 : Int32) (w3 : Int32) (w4 : Int32) : Int32 := r_X5_takeOffHook (zpI σ 512 0 ((zI σ 512 0) + 1)) w1.toNatClampNeg
set_option maxRecDepth 100000 in
set_option maxHeartbeats 4000000 in
theorem ctX5_perform_7 (l : Launch) (D : va_G) (cy : Nat → ClassId) (ad : Nat → Nat → Nat) (σ : zS) (hj : zinj ad zsL) (w1 : Int32) (w2 : Int32) (w3 : Int32) (w4 : Int32) (h1 : vp_in w1 24) : Met l yX5_perform (zw yX5_perform cX5_perform 6 (some .int)) (zrm 4) (va_Pc [.ref (ad 0 0), .int 7, .int w1, .int w2, .int w3, .int w4] (zB D cy (zW D cy ad zsL σ))) (zqM (some (.int (r_X5_perform_7 σ w1 w2 w3 w4))) (zW D cy ad zsL (f_X5_perform_7 σ w1 w2 w3 w4)) (zrg ad zsL)) 0 0 (zrg ad zsL) := by
  refine zmet (by decide) rfl (Nat.le_of_ble_eq_true rfl) rfl (fun p e s m below meth c ls X hml hr hlocks hv hl => ?_)
  obtain ⟨hK, hW⟩ := hv
  obtain ⟨hx, hb, -, -⟩ := id X
  have hl : lv_has ls 6 [(0, .ref (ad 0 0)), (1, .int 7), (2, .int w1), (3, .int w2), (4, .int w3), (5, .int w4)] := hl
  have hS : va_S (zrg ad zsL) s.heap s.heap [] := va_S.rf
  generalize hAe : zrg ad zsL = A at hS ⊢
  have hA : ∀ q, zrg ad zsL q → A q := fun q h => by rw [← hAe]; exact h
  refine lv_aload_n hx hb dX5_perform_0 rfl (lv_at hl 0 rfl) ?_
  refine lv_dup hx hb dX5_perform_1 rfl ?_
  refine zg5_12 X hK hW m_269 dX5_perform_2 ?_
  refine lv_iconst (v := 1) hx hb dX5_perform_5 (by decide) ?_
  refine lv_iadd hx hb dX5_perform_6 ?_
  refine zp5_12 X hK hW hj hA hS m_269 dX5_perform_7 (fun H locs hW hS => ?_)
  refine lv_iload_n hx hb dX5_perform_10 rfl (lv_at hl 1 rfl) ?_
  refine lv_tableIn (off := 147) (tgt := 158) hx hb dX5_perform_11 (by decide) (by decide) rfl (by decide) ?_
  refine lv_aload_n hx hb dX5_perform_158 rfl (lv_at hl 0 rfl) ?_
  refine lv_aload_n hx hb dX5_perform_159 rfl (lv_at hl 0 rfl) ?_
  refine zg5_1 X hK hW m_246 dX5_perform_160 ?_
  refine lv_iload_n hx hb dX5_perform_163 rfl (lv_at hl 2 rfl) ?_
  refine zr2 X hK hW h1 dX5_perform_164 ?_
  refine zcallMV (As := [.ref (ad 11 w1.toNatClampNeg)]) (rest := []) X hml hK hW (ctX5_takeOffHook l D cy ad (zpI σ 512 0 ((zI σ 512 0) + 1)) hj w1.toNatClampNeg (zvin h1)) zmX5_takeOffHook (by decide) m_510 (zrecv hK (hW 0 0 rfl (by decide)) rfl) ⟨Nat.le_of_ble_eq_true rfl, Nat.le_of_ble_eq_true rfl⟩ ⟨Nat.zero_le _, Nat.zero_le _⟩ rfl hl.1 rfl (Nat.le_of_ble_eq_true rfl) dX5_perform_165 hS hA (fun H locs hW hsz hfr hS => ?_)
  exact zm_i hx hb hr hlocks (by rw [r_X5_perform_7]) (by rw [f_X5_perform_7]; exact hW) hS dX5_perform_168
def f_X5_perform_8 (σ : zS) (w1 : Int32) (w2 : Int32) (w3 : Int32) (w4 : Int32) : zS := (f_X5_beginLoad (zpI σ 512 0 ((zI σ 512 0) + 1)))
def r_X5_perform_8 (σ : zS) (w1 : Int32) (w2 : Int32) (w3 : Int32) (w4 : Int32) : Int32 := r_X5_beginLoad (zpI σ 512 0 ((zI σ 512 0) + 1))
set_option maxRecDepth 100000 in
set_option maxHeartbeats 4000000 in
theorem ctX5_perform_8 (l : Launch) (D : va_G) (cy : Nat → ClassId) (ad : Nat → Nat → Nat) (σ : zS) (hj : zinj ad zsL) (w1 : Int32) (w2 : Int32) (w3 : Int32) (w4 : Int32) (h1 : vp_in (zI σ 507 0) 30) : Met l yX5_perform (zw yX5_perform cX5_perform 6 (some .int)) (zrm 4) (va_Pc [.ref (ad 0 0), .int 8, .int w1, .int w2, .int w3, .int w4] (zB D cy (zW D cy ad zsL σ))) (zqM (some (.int (r_X5_perform_8 σ w1 w2 w3 w4))) (zW D cy ad zsL (f_X5_perform_8 σ w1 w2 w3 w4)) (zrg ad zsL)) 0 0 (zrg ad zsL) := by
  refine zmet (by decide) rfl (Nat.le_of_ble_eq_true rfl) rfl (fun p e s m below meth c ls X hml hr hlocks hv hl => ?_)
  obtain ⟨hK, hW⟩ := hv
  obtain ⟨hx, hb, -, -⟩ := id X
  have hl : lv_has ls 6 [(0, .ref (ad 0 0)), (1, .int 8), (2, .int w1), (3, .int w2), (4, .int w3), (5, .int w4)] := hl
  have hS : va_S (zrg ad zsL) s.heap s.heap [] := va_S.rf
  generalize hAe : zrg ad zsL = A at hS ⊢
  have hA : ∀ q, zrg ad zsL q → A q := fun q h => by rw [← hAe]; exact h
  refine lv_aload_n hx hb dX5_perform_0 rfl (lv_at hl 0 rfl) ?_
  refine lv_dup hx hb dX5_perform_1 rfl ?_
  refine zg5_12 X hK hW m_269 dX5_perform_2 ?_
  refine lv_iconst (v := 1) hx hb dX5_perform_5 (by decide) ?_
  refine lv_iadd hx hb dX5_perform_6 ?_
  refine zp5_12 X hK hW hj hA hS m_269 dX5_perform_7 (fun H locs hW hS => ?_)
  refine lv_iload_n hx hb dX5_perform_10 rfl (lv_at hl 1 rfl) ?_
  refine lv_tableIn (off := 158) (tgt := 169) hx hb dX5_perform_11 (by decide) (by decide) rfl (by decide) ?_
  refine lv_aload_n hx hb dX5_perform_169 rfl (lv_at hl 0 rfl) ?_
  refine zcallMV (As := []) (rest := []) X hml hK hW (ctX5_beginLoad l D cy ad (zpI σ 512 0 ((zI σ 512 0) + 1)) hj h1) zmX5_beginLoad (by decide) m_514 (zrecv hK (hW 0 0 rfl (by decide)) rfl) ⟨Nat.le_of_ble_eq_true rfl, Nat.le_of_ble_eq_true rfl⟩ ⟨Nat.zero_le _, Nat.zero_le _⟩ rfl hl.1 rfl (Nat.le_of_ble_eq_true rfl) dX5_perform_170 hS hA (fun H locs hW hsz hfr hS => ?_)
  exact zm_i hx hb hr hlocks (by rw [r_X5_perform_8]) (by rw [f_X5_perform_8]; exact hW) hS dX5_perform_173
def f_X5_perform_9 (σ : zS) (w1 : Int32) (w2 : Int32) (w3 : Int32) (w4 : Int32) : zS := (f_X5_putAboard (zpI σ 512 0 ((zI σ 512 0) + 1)) w1.toNatClampNeg w2 w3)
def r_X5_perform_9 (σ : zS) (w1 : Int32) (w2 : Int32) (w3 : Int32) (w4 : Int32) : Int32 := r_X5_putAboard (zpI σ 512 0 ((zI σ 512 0) + 1)) w1.toNatClampNeg w2 w3
set_option maxRecDepth 100000 in
set_option maxHeartbeats 4000000 in
theorem ctX5_perform_9 (l : Launch) (D : va_G) (cy : Nat → ClassId) (ad : Nat → Nat → Nat) (σ : zS) (hj : zinj ad zsL) (w1 : Int32) (w2 : Int32) (w3 : Int32) (w4 : Int32) (h1 : vp_in w1 30) (h2 : vp_in (zI σ 400 w1.toNatClampNeg) 6) (h3 : vp_in w2 24) (h4 : vp_in w3 24) : Met l yX5_perform (zw yX5_perform cX5_perform 6 (some .int)) (zrm 4) (va_Pc [.ref (ad 0 0), .int 9, .int w1, .int w2, .int w3, .int w4] (zB D cy (zW D cy ad zsL σ))) (zqM (some (.int (r_X5_perform_9 σ w1 w2 w3 w4))) (zW D cy ad zsL (f_X5_perform_9 σ w1 w2 w3 w4)) (zrg ad zsL)) 0 0 (zrg ad zsL) := by
  refine zmet (by decide) rfl (Nat.le_of_ble_eq_true rfl) rfl (fun p e s m below meth c ls X hml hr hlocks hv hl => ?_)
  obtain ⟨hK, hW⟩ := hv
  obtain ⟨hx, hb, -, -⟩ := id X
  have hl : lv_has ls 6 [(0, .ref (ad 0 0)), (1, .int 9), (2, .int w1), (3, .int w2), (4, .int w3), (5, .int w4)] := hl
  have hS : va_S (zrg ad zsL) s.heap s.heap [] := va_S.rf
  generalize hAe : zrg ad zsL = A at hS ⊢
  have hA : ∀ q, zrg ad zsL q → A q := fun q h => by rw [← hAe]; exact h
  refine lv_aload_n hx hb dX5_perform_0 rfl (lv_at hl 0 rfl) ?_
  refine lv_dup hx hb dX5_perform_1 rfl ?_
  refine zg5_12 X hK hW m_269 dX5_perform_2 ?_
  refine lv_iconst (v := 1) hx hb dX5_perform_5 (by decide) ?_
  refine lv_iadd hx hb dX5_perform_6 ?_
  refine zp5_12 X hK hW hj hA hS m_269 dX5_perform_7 (fun H locs hW hS => ?_)
  refine lv_iload_n hx hb dX5_perform_10 rfl (lv_at hl 1 rfl) ?_
  refine lv_tableIn (off := 163) (tgt := 174) hx hb dX5_perform_11 (by decide) (by decide) rfl (by decide) ?_
  refine lv_aload_n hx hb dX5_perform_174 rfl (lv_at hl 0 rfl) ?_
  refine lv_aload_n hx hb dX5_perform_175 rfl (lv_at hl 0 rfl) ?_
  refine zg5_2 X hK hW m_249 dX5_perform_176 ?_
  refine lv_iload_n hx hb dX5_perform_179 rfl (lv_at hl 2 rfl) ?_
  refine zr3 X hK hW h1 dX5_perform_180 ?_
  refine lv_iload_n hx hb dX5_perform_181 rfl (lv_at hl 3 rfl) ?_
  refine lv_iload hx hb dX5_perform_182 (lv_at hl 4 rfl) ?_
  refine zcallMV (As := [.ref (ad 13 w1.toNatClampNeg), .int w2, .int w3]) (rest := []) X hml hK hW (ctX5_putAboard l D cy ad (zpI σ 512 0 ((zI σ 512 0) + 1)) hj w1.toNatClampNeg (zvin h1) w2 w3 h2 h3 h4) zmX5_putAboard (by decide) m_522 (zrecv hK (hW 0 0 rfl (by decide)) rfl) ⟨Nat.le_of_ble_eq_true rfl, Nat.le_of_ble_eq_true rfl⟩ ⟨Nat.zero_le _, Nat.zero_le _⟩ rfl hl.1 rfl (Nat.le_of_ble_eq_true rfl) dX5_perform_184 hS hA (fun H locs hW hsz hfr hS => ?_)
  exact zm_i hx hb hr hlocks (by rw [r_X5_perform_9]) (by rw [f_X5_perform_9]; exact hW) hS dX5_perform_187
def f_X5_perform_10 (σ : zS) (w1 : Int32) (w2 : Int32) (w3 : Int32) (w4 : Int32) : zS := (f_X5_takeLastOff (zpI σ 512 0 ((zI σ 512 0) + 1)) w1.toNatClampNeg)
def r_X5_perform_10 (σ : zS) (w1 : Int32) (w2 : Int32) (w3 : Int32) (w4 : Int32) : Int32 := r_X5_takeLastOff (zpI σ 512 0 ((zI σ 512 0) + 1)) w1.toNatClampNeg
set_option maxRecDepth 100000 in
set_option maxHeartbeats 4000000 in
theorem ctX5_perform_10 (l : Launch) (D : va_G) (cy : Nat → ClassId) (ad : Nat → Nat → Nat) (σ : zS) (hj : zinj ad zsL) (w1 : Int32) (w2 : Int32) (w3 : Int32) (w4 : Int32) (h1 : vp_in w1 30) (a0 : Nat) (ha : zI σ 400 w1.toNatClampNeg = nI (a0 + 1)) (ha6 : a0 < 6) (hm : vp_in (zA σ 14 w1.toNatClampNeg a0) 24) (hr9 : vp_in (zA σ 15 w1.toNatClampNeg a0) 24) : Met l yX5_perform (zw yX5_perform cX5_perform 6 (some .int)) (zrm 4) (va_Pc [.ref (ad 0 0), .int 10, .int w1, .int w2, .int w3, .int w4] (zB D cy (zW D cy ad zsL σ))) (zqM (some (.int (r_X5_perform_10 σ w1 w2 w3 w4))) (zW D cy ad zsL (f_X5_perform_10 σ w1 w2 w3 w4)) (zrg ad zsL)) 0 0 (zrg ad zsL) := by
  refine zmet (by decide) rfl (Nat.le_of_ble_eq_true rfl) rfl (fun p e s m below meth c ls X hml hr hlocks hv hl => ?_)
  obtain ⟨hK, hW⟩ := hv
  obtain ⟨hx, hb, -, -⟩ := id X
  have hl : lv_has ls 6 [(0, .ref (ad 0 0)), (1, .int 10), (2, .int w1), (3, .int w2), (4, .int w3), (5, .int w4)] := hl
  have hS : va_S (zrg ad zsL) s.heap s.heap [] := va_S.rf
  generalize hAe : zrg ad zsL = A at hS ⊢
  have hA : ∀ q, zrg ad zsL q → A q := fun q h => by rw [← hAe]; exact h
  refine lv_aload_n hx hb dX5_perform_0 rfl (lv_at hl 0 rfl) ?_
  refine lv_dup hx hb dX5_perform_1 rfl ?_
  refine zg5_12 X hK hW m_269 dX5_perform_2 ?_
  refine lv_iconst (v := 1) hx hb dX5_perform_5 (by decide) ?_
  refine lv_iadd hx hb dX5_perform_6 ?_
  refine zp5_12 X hK hW hj hA hS m_269 dX5_perform_7 (fun H locs hW hS => ?_)
  refine lv_iload_n hx hb dX5_perform_10 rfl (lv_at hl 1 rfl) ?_
  refine lv_tableIn (off := 177) (tgt := 188) hx hb dX5_perform_11 (by decide) (by decide) rfl (by decide) ?_
  refine lv_aload_n hx hb dX5_perform_188 rfl (lv_at hl 0 rfl) ?_
  refine lv_aload_n hx hb dX5_perform_189 rfl (lv_at hl 0 rfl) ?_
  refine zg5_2 X hK hW m_249 dX5_perform_190 ?_
  refine lv_iload_n hx hb dX5_perform_193 rfl (lv_at hl 2 rfl) ?_
  refine zr3 X hK hW h1 dX5_perform_194 ?_
  refine zcallMV (As := [.ref (ad 13 w1.toNatClampNeg)]) (rest := []) X hml hK hW (ctX5_takeLastOff l D cy ad (zpI σ 512 0 ((zI σ 512 0) + 1)) hj w1.toNatClampNeg (zvin h1) a0 ha ha6 hm hr9) zmX5_takeLastOff (by decide) m_526 (zrecv hK (hW 0 0 rfl (by decide)) rfl) ⟨Nat.le_of_ble_eq_true rfl, Nat.le_of_ble_eq_true rfl⟩ ⟨Nat.zero_le _, Nat.zero_le _⟩ rfl hl.1 rfl (Nat.le_of_ble_eq_true rfl) dX5_perform_195 hS hA (fun H locs hW hsz hfr hS => ?_)
  exact zm_i hx hb hr hlocks (by rw [r_X5_perform_10]) (by rw [f_X5_perform_10]; exact hW) hS dX5_perform_198
def f_X5_perform_11 (σ : zS) (w1 : Int32) (w2 : Int32) (w3 : Int32) (w4 : Int32) : zS := (f_X5_letJump (zpI σ 512 0 ((zI σ 512 0) + 1)) w1.toNatClampNeg w2)
def r_X5_perform_11 (σ : zS) (w1 : Int32) (w2 : Int32) (w3 : Int32) (w4 : Int32) : Int32 := r_X5_letJump (zpI σ 512 0 ((zI σ 512 0) + 1)) w1.toNatClampNeg
set_option maxRecDepth 100000 in
set_option maxHeartbeats 4000000 in
theorem ctX5_perform_11 (l : Launch) (D : va_G) (cy : Nat → ClassId) (ad : Nat → Nat → Nat) (σ : zS) (hj : zinj ad zsL) (w1 : Int32) (w2 : Int32) (w3 : Int32) (w4 : Int32) (h1 : vp_in w1 30) (a0 : Nat) (ha : zI σ 400 w1.toNatClampNeg = nI a0) (ha6 : a0 ≤ 6) (hin : ∀ i, i < a0 → vp_in (zA σ 14 w1.toNatClampNeg i) 24 ∧ vp_in (zA σ 15 w1.toNatClampNeg i) 24) : Met l yX5_perform (zw yX5_perform cX5_perform 6 (some .int)) (zrm 4) (va_Pc [.ref (ad 0 0), .int 11, .int w1, .int w2, .int w3, .int w4] (zB D cy (zW D cy ad zsL σ))) (zqM (some (.int (r_X5_perform_11 σ w1 w2 w3 w4))) (zW D cy ad zsL (f_X5_perform_11 σ w1 w2 w3 w4)) (zrg ad zsL)) 0 0 (zrg ad zsL) := by
  refine zmet (by decide) rfl (Nat.le_of_ble_eq_true rfl) rfl (fun p e s m below meth c ls X hml hr hlocks hv hl => ?_)
  obtain ⟨hK, hW⟩ := hv
  obtain ⟨hx, hb, -, -⟩ := id X
  have hl : lv_has ls 6 [(0, .ref (ad 0 0)), (1, .int 11), (2, .int w1), (3, .int w2), (4, .int w3), (5, .int w4)] := hl
  have hS : va_S (zrg ad zsL) s.heap s.heap [] := va_S.rf
  generalize hAe : zrg ad zsL = A at hS ⊢
  have hA : ∀ q, zrg ad zsL q → A q := fun q h => by rw [← hAe]; exact h
  refine lv_aload_n hx hb dX5_perform_0 rfl (lv_at hl 0 rfl) ?_
  refine lv_dup hx hb dX5_perform_1 rfl ?_
  refine zg5_12 X hK hW m_269 dX5_perform_2 ?_
  refine lv_iconst (v := 1) hx hb dX5_perform_5 (by decide) ?_
  refine lv_iadd hx hb dX5_perform_6 ?_
  refine zp5_12 X hK hW hj hA hS m_269 dX5_perform_7 (fun H locs hW hS => ?_)
  refine lv_iload_n hx hb dX5_perform_10 rfl (lv_at hl 1 rfl) ?_
  refine lv_tableIn (off := 188) (tgt := 199) hx hb dX5_perform_11 (by decide) (by decide) rfl (by decide) ?_
  refine lv_aload_n hx hb dX5_perform_199 rfl (lv_at hl 0 rfl) ?_
  refine lv_aload_n hx hb dX5_perform_200 rfl (lv_at hl 0 rfl) ?_
  refine zg5_2 X hK hW m_249 dX5_perform_201 ?_
  refine lv_iload_n hx hb dX5_perform_204 rfl (lv_at hl 2 rfl) ?_
  refine zr3 X hK hW h1 dX5_perform_205 ?_
  refine lv_iload_n hx hb dX5_perform_206 rfl (lv_at hl 3 rfl) ?_
  refine zcallMV (As := [.ref (ad 13 w1.toNatClampNeg), .int w2]) (rest := []) X hml hK hW (ctX5_letJump l D cy ad (zpI σ 512 0 ((zI σ 512 0) + 1)) hj w1.toNatClampNeg (zvin h1) w2 a0 ha ha6 hin) zmX5_letJump (by decide) m_530 (zrecv hK (hW 0 0 rfl (by decide)) rfl) ⟨Nat.le_of_ble_eq_true rfl, Nat.le_of_ble_eq_true rfl⟩ ⟨Nat.zero_le _, Nat.zero_le _⟩ rfl hl.1 rfl (Nat.le_of_ble_eq_true rfl) dX5_perform_207 hS hA (fun H locs hW hsz hfr hS => ?_)
  exact zm_i hx hb hr hlocks (by rw [r_X5_perform_11]) (by rw [f_X5_perform_11]; exact hW) hS dX5_perform_210
def f_X5_perform_12 (σ : zS) (w1 : Int32) (w2 : Int32) (w3 : Int32) (w4 : Int32) : zS := (f_X5_noteFinding (zpI σ 512 0 ((zI σ 512 0) + 1)) w1)
def r_X5_perform_12 (σ : zS) (w1 : Int32) (w2 : Int32) (w3 : Int32) (w4 : Int32) : Int32 := r_X5_noteFinding (zpI σ 512 0 ((zI σ 512 0) + 1)) w1
set_option maxRecDepth 100000 in
set_option maxHeartbeats 4000000 in
theorem ctX5_perform_12 (l : Launch) (D : va_G) (cy : Nat → ClassId) (ad : Nat → Nat → Nat) (σ : zS) (hj : zinj ad zsL) (w1 : Int32) (w2 : Int32) (w3 : Int32) (w4 : Int32) (h1 : vp_in w1 24) (h2 : vp_in (zI σ 508 0) 12) : Met l yX5_perform (zw yX5_perform cX5_perform 6 (some .int)) (zrm 4) (va_Pc [.ref (ad 0 0), .int 12, .int w1, .int w2, .int w3, .int w4] (zB D cy (zW D cy ad zsL σ))) (zqM (some (.int (r_X5_perform_12 σ w1 w2 w3 w4))) (zW D cy ad zsL (f_X5_perform_12 σ w1 w2 w3 w4)) (zrg ad zsL)) 0 0 (zrg ad zsL) := by
  refine zmet (by decide) rfl (Nat.le_of_ble_eq_true rfl) rfl (fun p e s m below meth c ls X hml hr hlocks hv hl => ?_)
  obtain ⟨hK, hW⟩ := hv
  obtain ⟨hx, hb, -, -⟩ := id X
  have hl : lv_has ls 6 [(0, .ref (ad 0 0)), (1, .int 12), (2, .int w1), (3, .int w2), (4, .int w3), (5, .int w4)] := hl
  have hS : va_S (zrg ad zsL) s.heap s.heap [] := va_S.rf
  generalize hAe : zrg ad zsL = A at hS ⊢
  have hA : ∀ q, zrg ad zsL q → A q := fun q h => by rw [← hAe]; exact h
  refine lv_aload_n hx hb dX5_perform_0 rfl (lv_at hl 0 rfl) ?_
  refine lv_dup hx hb dX5_perform_1 rfl ?_
  refine zg5_12 X hK hW m_269 dX5_perform_2 ?_
  refine lv_iconst (v := 1) hx hb dX5_perform_5 (by decide) ?_
  refine lv_iadd hx hb dX5_perform_6 ?_
  refine zp5_12 X hK hW hj hA hS m_269 dX5_perform_7 (fun H locs hW hS => ?_)
  refine lv_iload_n hx hb dX5_perform_10 rfl (lv_at hl 1 rfl) ?_
  refine lv_tableIn (off := 200) (tgt := 211) hx hb dX5_perform_11 (by decide) (by decide) rfl (by decide) ?_
  refine lv_aload_n hx hb dX5_perform_211 rfl (lv_at hl 0 rfl) ?_
  refine lv_iload_n hx hb dX5_perform_212 rfl (lv_at hl 2 rfl) ?_
  refine zcallMV (As := [.int w1]) (rest := []) X hml hK hW (ctX5_noteFinding l D cy ad (zpI σ 512 0 ((zI σ 512 0) + 1)) hj w1 h1 h2) zmX5_noteFinding (by decide) m_538 (zrecv hK (hW 0 0 rfl (by decide)) rfl) ⟨Nat.le_of_ble_eq_true rfl, Nat.le_of_ble_eq_true rfl⟩ ⟨Nat.zero_le _, Nat.zero_le _⟩ rfl hl.1 rfl (Nat.le_of_ble_eq_true rfl) dX5_perform_213 hS hA (fun H locs hW hsz hfr hS => ?_)
  exact zm_i hx hb hr hlocks (by rw [r_X5_perform_12]) (by rw [f_X5_perform_12]; exact hW) hS dX5_perform_216
def f_X5_perform_13 (σ : zS) (w1 : Int32) (w2 : Int32) (w3 : Int32) (w4 : Int32) : zS := (f_X5_raiseLevel (zpI σ 512 0 ((zI σ 512 0) + 1)) w1.toNatClampNeg)
def r_X5_perform_13 (σ : zS) (w1 : Int32) (w2 : Int32) (w3 : Int32) (w4 : Int32) : Int32 := r_X5_raiseLevel (zpI σ 512 0 ((zI σ 512 0) + 1)) w1.toNatClampNeg
set_option maxRecDepth 100000 in
set_option maxHeartbeats 4000000 in
theorem ctX5_perform_13 (l : Launch) (D : va_G) (cy : Nat → ClassId) (ad : Nat → Nat → Nat) (σ : zS) (hj : zinj ad zsL) (w1 : Int32) (w2 : Int32) (w3 : Int32) (w4 : Int32) (h1 : vp_in w1 12) : Met l yX5_perform (zw yX5_perform cX5_perform 6 (some .int)) (zrm 4) (va_Pc [.ref (ad 0 0), .int 13, .int w1, .int w2, .int w3, .int w4] (zB D cy (zW D cy ad zsL σ))) (zqM (some (.int (r_X5_perform_13 σ w1 w2 w3 w4))) (zW D cy ad zsL (f_X5_perform_13 σ w1 w2 w3 w4)) (zrg ad zsL)) 0 0 (zrg ad zsL) := by
  refine zmet (by decide) rfl (Nat.le_of_ble_eq_true rfl) rfl (fun p e s m below meth c ls X hml hr hlocks hv hl => ?_)
  obtain ⟨hK, hW⟩ := hv
  obtain ⟨hx, hb, -, -⟩ := id X
  have hl : lv_has ls 6 [(0, .ref (ad 0 0)), (1, .int 13), (2, .int w1), (3, .int w2), (4, .int w3), (5, .int w4)] := hl
  have hS : va_S (zrg ad zsL) s.heap s.heap [] := va_S.rf
  generalize hAe : zrg ad zsL = A at hS ⊢
  have hA : ∀ q, zrg ad zsL q → A q := fun q h => by rw [← hAe]; exact h
  refine lv_aload_n hx hb dX5_perform_0 rfl (lv_at hl 0 rfl) ?_
  refine lv_dup hx hb dX5_perform_1 rfl ?_
  refine zg5_12 X hK hW m_269 dX5_perform_2 ?_
  refine lv_iconst (v := 1) hx hb dX5_perform_5 (by decide) ?_
  refine lv_iadd hx hb dX5_perform_6 ?_
  refine zp5_12 X hK hW hj hA hS m_269 dX5_perform_7 (fun H locs hW hS => ?_)
  refine lv_iload_n hx hb dX5_perform_10 rfl (lv_at hl 1 rfl) ?_
  refine lv_tableIn (off := 206) (tgt := 217) hx hb dX5_perform_11 (by decide) (by decide) rfl (by decide) ?_
  refine lv_aload_n hx hb dX5_perform_217 rfl (lv_at hl 0 rfl) ?_
  refine lv_aload_n hx hb dX5_perform_218 rfl (lv_at hl 0 rfl) ?_
  refine zg5_3 X hK hW m_251 dX5_perform_219 ?_
  refine lv_iload_n hx hb dX5_perform_222 rfl (lv_at hl 2 rfl) ?_
  refine zr4 X hK hW h1 dX5_perform_223 ?_
  refine zcallMV (As := [.ref (ad 16 w1.toNatClampNeg)]) (rest := []) X hml hK hW (ctX5_raiseLevel l D cy ad (zpI σ 512 0 ((zI σ 512 0) + 1)) hj w1.toNatClampNeg (zvin h1)) zmX5_raiseLevel (by decide) m_546 (zrecv hK (hW 0 0 rfl (by decide)) rfl) ⟨Nat.le_of_ble_eq_true rfl, Nat.le_of_ble_eq_true rfl⟩ ⟨Nat.zero_le _, Nat.zero_le _⟩ rfl hl.1 rfl (Nat.le_of_ble_eq_true rfl) dX5_perform_224 hS hA (fun H locs hW hsz hfr hS => ?_)
  exact zm_i hx hb hr hlocks (by rw [r_X5_perform_13]) (by rw [f_X5_perform_13]; exact hW) hS dX5_perform_227
def f_X5_perform_14 (σ : zS) (w1 : Int32) (w2 : Int32) (w3 : Int32) (w4 : Int32) : zS := (f_X5_noteCause (zpI σ 512 0 ((zI σ 512 0) + 1)) w1.toNatClampNeg ((w2.toUInt32 % 65536).toInt32))
def r_X5_perform_14 (σ : zS) (w1 : Int32) (w2 : Int32) (w3 : Int32) (w4 : Int32) : Int32 := r_X5_noteCause (zpI σ 512 0 ((zI σ 512 0) + 1)) w1.toNatClampNeg ((w2.toUInt32 % 65536).toInt32)
set_option maxRecDepth 100000 in
set_option maxHeartbeats 4000000 in
theorem ctX5_perform_14 (l : Launch) (D : va_G) (cy : Nat → ClassId) (ad : Nat → Nat → Nat) (σ : zS) (hj : zinj ad zsL) (w1 : Int32) (w2 : Int32) (w3 : Int32) (w4 : Int32) (h1 : vp_in w1 12) : Met l yX5_perform (zw yX5_perform cX5_perform 6 (some .int)) (zrm 4) (va_Pc [.ref (ad 0 0), .int 14, .int w1, .int w2, .int w3, .int w4] (zB D cy (zW D cy ad zsL σ))) (zqM (some (.int (r_X5_perform_14 σ w1 w2 w3 w4))) (zW D cy ad zsL (f_X5_perform_14 σ w1 w2 w3 w4)) (zrg ad zsL)) 0 0 (zrg ad zsL) := by
  refine zmet (by decide) rfl (Nat.le_of_ble_eq_true rfl) rfl (fun p e s m below meth c ls X hml hr hlocks hv hl => ?_)
  obtain ⟨hK, hW⟩ := hv
  obtain ⟨hx, hb, -, -⟩ := id X
  have hl : lv_has ls 6 [(0, .ref (ad 0 0)), (1, .int 14), (2, .int w1), (3, .int w2), (4, .int w3), (5, .int w4)] := hl
  have hS : va_S (zrg ad zsL) s.heap s.heap [] := va_S.rf
  generalize hAe : zrg ad zsL = A at hS ⊢
  have hA : ∀ q, zrg ad zsL q → A q := fun q h => by rw [← hAe]; exact h
  refine lv_aload_n hx hb dX5_perform_0 rfl (lv_at hl 0 rfl) ?_
  refine lv_dup hx hb dX5_perform_1 rfl ?_
  refine zg5_12 X hK hW m_269 dX5_perform_2 ?_
  refine lv_iconst (v := 1) hx hb dX5_perform_5 (by decide) ?_
  refine lv_iadd hx hb dX5_perform_6 ?_
  refine zp5_12 X hK hW hj hA hS m_269 dX5_perform_7 (fun H locs hW hS => ?_)
  refine lv_iload_n hx hb dX5_perform_10 rfl (lv_at hl 1 rfl) ?_
  refine lv_tableIn (off := 217) (tgt := 228) hx hb dX5_perform_11 (by decide) (by decide) rfl (by decide) ?_
  refine lv_aload_n hx hb dX5_perform_228 rfl (lv_at hl 0 rfl) ?_
  refine lv_aload_n hx hb dX5_perform_229 rfl (lv_at hl 0 rfl) ?_
  refine zg5_3 X hK hW m_251 dX5_perform_230 ?_
  refine lv_iload_n hx hb dX5_perform_233 rfl (lv_at hl 2 rfl) ?_
  refine zr4 X hK hW h1 dX5_perform_234 ?_
  refine lv_iload_n hx hb dX5_perform_235 rfl (lv_at hl 3 rfl) ?_
  refine lv_i2c (v := (w2.toUInt32 % 65536).toInt32) hx hb dX5_perform_236 rfl ?_
  refine zcallMV (As := [.ref (ad 16 w1.toNatClampNeg), .int ((w2.toUInt32 % 65536).toInt32)]) (rest := []) X hml hK hW (ctX5_noteCause l D cy ad (zpI σ 512 0 ((zI σ 512 0) + 1)) hj w1.toNatClampNeg (zvin h1) ((w2.toUInt32 % 65536).toInt32) ⟨pk_nc w2, pk_fc w2⟩) zmX5_noteCause (by decide) m_550 (zrecv hK (hW 0 0 rfl (by decide)) rfl) ⟨Nat.le_of_ble_eq_true rfl, Nat.le_of_ble_eq_true rfl⟩ ⟨Nat.zero_le _, Nat.zero_le _⟩ rfl hl.1 rfl (Nat.le_of_ble_eq_true rfl) dX5_perform_237 hS hA (fun H locs hW hsz hfr hS => ?_)
  exact zm_i hx hb hr hlocks (by rw [r_X5_perform_14]) (by rw [f_X5_perform_14]; exact hW) hS dX5_perform_240
def f_X5_perform_15 (σ : zS) (w1 : Int32) (w2 : Int32) (w3 : Int32) (w4 : Int32) : zS := (f_X5_shut (zpI σ 512 0 ((zI σ 512 0) + 1)) w1.toNatClampNeg)
def r_X5_perform_15 (σ : zS) (w1 : Int32) (w2 : Int32) (w3 : Int32) (w4 : Int32) : Int32 := r_X5_shut (zpI σ 512 0 ((zI σ 512 0) + 1)) w1.toNatClampNeg
set_option maxRecDepth 100000 in
set_option maxHeartbeats 4000000 in
theorem ctX5_perform_15 (l : Launch) (D : va_G) (cy : Nat → ClassId) (ad : Nat → Nat → Nat) (σ : zS) (hj : zinj ad zsL) (w1 : Int32) (w2 : Int32) (w3 : Int32) (w4 : Int32) (h1 : vp_in w1 12) : Met l yX5_perform (zw yX5_perform cX5_perform 6 (some .int)) (zrm 4) (va_Pc [.ref (ad 0 0), .int 15, .int w1, .int w2, .int w3, .int w4] (zB D cy (zW D cy ad zsL σ))) (zqM (some (.int (r_X5_perform_15 σ w1 w2 w3 w4))) (zW D cy ad zsL (f_X5_perform_15 σ w1 w2 w3 w4)) (zrg ad zsL)) 0 0 (zrg ad zsL) := by
  refine zmet (by decide) rfl (Nat.le_of_ble_eq_true rfl) rfl (fun p e s m below meth c ls X hml hr hlocks hv hl => ?_)
  obtain ⟨hK, hW⟩ := hv
  obtain ⟨hx, hb, -, -⟩ := id X
  have hl : lv_has ls 6 [(0, .ref (ad 0 0)), (1, .int 15), (2, .int w1), (3, .int w2), (4, .int w3), (5, .int w4)] := hl
  have hS : va_S (zrg ad zsL) s.heap s.heap [] := va_S.rf
  generalize hAe : zrg ad zsL = A at hS ⊢
  have hA : ∀ q, zrg ad zsL q → A q := fun q h => by rw [← hAe]; exact h
  refine lv_aload_n hx hb dX5_perform_0 rfl (lv_at hl 0 rfl) ?_
  refine lv_dup hx hb dX5_perform_1 rfl ?_
  refine zg5_12 X hK hW m_269 dX5_perform_2 ?_
  refine lv_iconst (v := 1) hx hb dX5_perform_5 (by decide) ?_
  refine lv_iadd hx hb dX5_perform_6 ?_
  refine zp5_12 X hK hW hj hA hS m_269 dX5_perform_7 (fun H locs hW hS => ?_)
  refine lv_iload_n hx hb dX5_perform_10 rfl (lv_at hl 1 rfl) ?_
  refine lv_tableIn (off := 230) (tgt := 241) hx hb dX5_perform_11 (by decide) (by decide) rfl (by decide) ?_
  refine lv_aload_n hx hb dX5_perform_241 rfl (lv_at hl 0 rfl) ?_
  refine lv_aload_n hx hb dX5_perform_242 rfl (lv_at hl 0 rfl) ?_
  refine zg5_3 X hK hW m_251 dX5_perform_243 ?_
  refine lv_iload_n hx hb dX5_perform_246 rfl (lv_at hl 2 rfl) ?_
  refine zr4 X hK hW h1 dX5_perform_247 ?_
  refine zcallMV (As := [.ref (ad 16 w1.toNatClampNeg)]) (rest := []) X hml hK hW (ctX5_shut l D cy ad (zpI σ 512 0 ((zI σ 512 0) + 1)) hj w1.toNatClampNeg (zvin h1)) zmX5_shut (by decide) m_554 (zrecv hK (hW 0 0 rfl (by decide)) rfl) ⟨Nat.le_of_ble_eq_true rfl, Nat.le_of_ble_eq_true rfl⟩ ⟨Nat.zero_le _, Nat.zero_le _⟩ rfl hl.1 rfl (Nat.le_of_ble_eq_true rfl) dX5_perform_248 hS hA (fun H locs hW hsz hfr hS => ?_)
  exact zm_i hx hb hr hlocks (by rw [r_X5_perform_15]) (by rw [f_X5_perform_15]; exact hW) hS dX5_perform_251
def f_X5_perform_16 (σ : zS) (w1 : Int32) (w2 : Int32) (w3 : Int32) (w4 : Int32) : zS := (f_X5_mend (zpI σ 512 0 ((zI σ 512 0) + 1)) w1)
def r_X5_perform_16 (σ : zS) (w1 : Int32) (w2 : Int32) (w3 : Int32) (w4 : Int32) : Int32 := r_X5_mend (zpI σ 512 0 ((zI σ 512 0) + 1)) w1
set_option maxRecDepth 100000 in
set_option maxHeartbeats 4000000 in
theorem ctX5_perform_16 (l : Launch) (D : va_G) (cy : Nat → ClassId) (ad : Nat → Nat → Nat) (σ : zS) (hj : zinj ad zsL) (w1 : Int32) (w2 : Int32) (w3 : Int32) (w4 : Int32) (h1 : vp_in w1 24) (hc : zbd σ 508 12) : Met l yX5_perform (zw yX5_perform cX5_perform 6 (some .int)) (zrm 4) (va_Pc [.ref (ad 0 0), .int 16, .int w1, .int w2, .int w3, .int w4] (zB D cy (zW D cy ad zsL σ))) (zqM (some (.int (r_X5_perform_16 σ w1 w2 w3 w4))) (zW D cy ad zsL (f_X5_perform_16 σ w1 w2 w3 w4)) (zrg ad zsL)) 0 0 (zrg ad zsL) := by
  refine zmet (by decide) rfl (Nat.le_of_ble_eq_true rfl) rfl (fun p e s m below meth c ls X hml hr hlocks hv hl => ?_)
  obtain ⟨hK, hW⟩ := hv
  obtain ⟨hx, hb, -, -⟩ := id X
  have hl : lv_has ls 6 [(0, .ref (ad 0 0)), (1, .int 16), (2, .int w1), (3, .int w2), (4, .int w3), (5, .int w4)] := hl
  have hS : va_S (zrg ad zsL) s.heap s.heap [] := va_S.rf
  generalize hAe : zrg ad zsL = A at hS ⊢
  have hA : ∀ q, zrg ad zsL q → A q := fun q h => by rw [← hAe]; exact h
  refine lv_aload_n hx hb dX5_perform_0 rfl (lv_at hl 0 rfl) ?_
  refine lv_dup hx hb dX5_perform_1 rfl ?_
  refine zg5_12 X hK hW m_269 dX5_perform_2 ?_
  refine lv_iconst (v := 1) hx hb dX5_perform_5 (by decide) ?_
  refine lv_iadd hx hb dX5_perform_6 ?_
  refine zp5_12 X hK hW hj hA hS m_269 dX5_perform_7 (fun H locs hW hS => ?_)
  refine lv_iload_n hx hb dX5_perform_10 rfl (lv_at hl 1 rfl) ?_
  refine lv_tableIn (off := 241) (tgt := 252) hx hb dX5_perform_11 (by decide) (by decide) rfl (by decide) ?_
  refine lv_aload_n hx hb dX5_perform_252 rfl (lv_at hl 0 rfl) ?_
  refine lv_iload_n hx hb dX5_perform_253 rfl (lv_at hl 2 rfl) ?_
  refine zcallMV (As := [.int w1]) (rest := []) X hml hK hW (ctX5_mend l D cy ad (zpI σ 512 0 ((zI σ 512 0) + 1)) hj w1 h1 (zbd_pI (by decide) hc)) zmX5_mend (by decide) m_558 (zrecv hK (hW 0 0 rfl (by decide)) rfl) ⟨Nat.le_of_ble_eq_true rfl, Nat.le_of_ble_eq_true rfl⟩ ⟨Nat.zero_le _, Nat.zero_le _⟩ rfl hl.1 rfl (Nat.le_of_ble_eq_true rfl) dX5_perform_254 hS hA (fun H locs hW hsz hfr hS => ?_)
  exact zm_i hx hb hr hlocks (by rw [r_X5_perform_16]) (by rw [f_X5_perform_16]; exact hW) hS dX5_perform_257
def f_X5_perform_17 (σ : zS) (w1 : Int32) (w2 : Int32) (w3 : Int32) (w4 : Int32) : zS := if ¬ w2 = 1 then (f_X5_tryOut (zpI σ 512 0 ((zI σ 512 0) + 1)) w1 false) else (f_X5_tryOut (zpI σ 512 0 ((zI σ 512 0) + 1)) w1 true)
def r_X5_perform_17 (σ : zS) (w1 : Int32) (w2 : Int32) (w3 : Int32) (w4 : Int32) : Int32 := if ¬ w2 = 1 then r_X5_tryOut (zpI σ 512 0 ((zI σ 512 0) + 1)) w1 false else r_X5_tryOut (zpI σ 512 0 ((zI σ 512 0) + 1)) w1 true
set_option maxRecDepth 100000 in
set_option maxHeartbeats 4000000 in
theorem ctX5_perform_17 (l : Launch) (D : va_G) (cy : Nat → ClassId) (ad : Nat → Nat → Nat) (σ : zS) (hj : zinj ad zsL) (w1 : Int32) (w2 : Int32) (w3 : Int32) (w4 : Int32) (h1 : vp_in w1 24) (hc : zbd σ 508 12) : Met l yX5_perform (zw yX5_perform cX5_perform 6 (some .int)) (zrm 4) (va_Pc [.ref (ad 0 0), .int 17, .int w1, .int w2, .int w3, .int w4] (zB D cy (zW D cy ad zsL σ))) (zqM (some (.int (r_X5_perform_17 σ w1 w2 w3 w4))) (zW D cy ad zsL (f_X5_perform_17 σ w1 w2 w3 w4)) (zrg ad zsL)) 0 0 (zrg ad zsL) := by
  refine zmet (by decide) rfl (Nat.le_of_ble_eq_true rfl) rfl (fun p e s m below meth c ls X hml hr hlocks hv hl => ?_)
  obtain ⟨hK, hW⟩ := hv
  obtain ⟨hx, hb, -, -⟩ := id X
  have hl : lv_has ls 6 [(0, .ref (ad 0 0)), (1, .int 17), (2, .int w1), (3, .int w2), (4, .int w3), (5, .int w4)] := hl
  have hS : va_S (zrg ad zsL) s.heap s.heap [] := va_S.rf
  generalize hAe : zrg ad zsL = A at hS ⊢
  have hA : ∀ q, zrg ad zsL q → A q := fun q h => by rw [← hAe]; exact h
  refine lv_aload_n hx hb dX5_perform_0 rfl (lv_at hl 0 rfl) ?_
  refine lv_dup hx hb dX5_perform_1 rfl ?_
  refine zg5_12 X hK hW m_269 dX5_perform_2 ?_
  refine lv_iconst (v := 1) hx hb dX5_perform_5 (by decide) ?_
  refine lv_iadd hx hb dX5_perform_6 ?_
  refine zp5_12 X hK hW hj hA hS m_269 dX5_perform_7 (fun H locs hW hS => ?_)
  refine lv_iload_n hx hb dX5_perform_10 rfl (lv_at hl 1 rfl) ?_
  refine lv_tableIn (off := 247) (tgt := 258) hx hb dX5_perform_11 (by decide) (by decide) rfl (by decide) ?_
  refine lv_aload_n hx hb dX5_perform_258 rfl (lv_at hl 0 rfl) ?_
  refine lv_iload_n hx hb dX5_perform_259 rfl (lv_at hl 2 rfl) ?_
  refine lv_iload_n hx hb dX5_perform_260 rfl (lv_at hl 3 rfl) ?_
  refine lv_iconst (v := 1) hx hb dX5_perform_261 (by decide) ?_
  refine lv_icmp_ne (tgt := 269) hx hb dX5_perform_262 (by decide) (fun b1 => ?_) (fun b1 => ?_)
  · refine lv_iconst (v := 0) hx hb dX5_perform_269 (by decide) ?_
    refine zcallMV (As := [.int w1, .int (bI false)]) (rest := []) X hml hK hW (ctX5_tryOut l D cy ad (zpI σ 512 0 ((zI σ 512 0) + 1)) hj w1 false h1 (zbd_pI (by decide) hc)) zmX5_tryOut (by decide) m_562 (zrecv hK (hW 0 0 rfl (by decide)) rfl) ⟨Nat.le_of_ble_eq_true rfl, Nat.le_of_ble_eq_true rfl⟩ ⟨Nat.zero_le _, Nat.zero_le _⟩ rfl hl.1 rfl (Nat.le_of_ble_eq_true rfl) dX5_perform_270 hS hA (fun H locs hW hsz hfr hS => ?_)
    exact zm_i hx hb hr hlocks (by rw [r_X5_perform_17, if_pos b1]) (by rw [f_X5_perform_17, if_pos b1]; exact hW) hS dX5_perform_273
  · refine lv_iconst (v := 1) hx hb dX5_perform_265 (by decide) ?_
    refine lv_goto (tgt := 270) hx hb dX5_perform_266 (by decide) ?_
    refine zcallMV (As := [.int w1, .int (bI true)]) (rest := []) X hml hK hW (ctX5_tryOut l D cy ad (zpI σ 512 0 ((zI σ 512 0) + 1)) hj w1 true h1 (zbd_pI (by decide) hc)) zmX5_tryOut (by decide) m_562 (zrecv hK (hW 0 0 rfl (by decide)) rfl) ⟨Nat.le_of_ble_eq_true rfl, Nat.le_of_ble_eq_true rfl⟩ ⟨Nat.zero_le _, Nat.zero_le _⟩ rfl hl.1 rfl (Nat.le_of_ble_eq_true rfl) dX5_perform_270 hS hA (fun H locs hW hsz hfr hS => ?_)
    exact zm_i hx hb hr hlocks (by rw [r_X5_perform_17, if_neg (not_not_intro b1)]) (by rw [f_X5_perform_17, if_neg (not_not_intro b1)]; exact hW) hS dX5_perform_273
def f_X5_perform_18 (σ : zS) (w1 : Int32) (w2 : Int32) (w3 : Int32) (w4 : Int32) : zS := (f_X5_handOut (zpI σ 512 0 ((zI σ 512 0) + 1)) w1.toNatClampNeg w2 w3)
def r_X5_perform_18 (σ : zS) (w1 : Int32) (w2 : Int32) (w3 : Int32) (w4 : Int32) : Int32 := r_X5_handOut (zpI σ 512 0 ((zI σ 512 0) + 1)) w1.toNatClampNeg w2 w3
set_option maxRecDepth 100000 in
set_option maxHeartbeats 4000000 in
theorem ctX5_perform_18 (l : Launch) (D : va_G) (cy : Nat → ClassId) (ad : Nat → Nat → Nat) (σ : zS) (hj : zinj ad zsL) (w1 : Int32) (w2 : Int32) (w3 : Int32) (w4 : Int32) (h1 : vp_in w1 24) : Met l yX5_perform (zw yX5_perform cX5_perform 6 (some .int)) (zrm 4) (va_Pc [.ref (ad 0 0), .int 18, .int w1, .int w2, .int w3, .int w4] (zB D cy (zW D cy ad zsL σ))) (zqM (some (.int (r_X5_perform_18 σ w1 w2 w3 w4))) (zW D cy ad zsL (f_X5_perform_18 σ w1 w2 w3 w4)) (zrg ad zsL)) 0 0 (zrg ad zsL) := by
  refine zmet (by decide) rfl (Nat.le_of_ble_eq_true rfl) rfl (fun p e s m below meth c ls X hml hr hlocks hv hl => ?_)
  obtain ⟨hK, hW⟩ := hv
  obtain ⟨hx, hb, -, -⟩ := id X
  have hl : lv_has ls 6 [(0, .ref (ad 0 0)), (1, .int 18), (2, .int w1), (3, .int w2), (4, .int w3), (5, .int w4)] := hl
  have hS : va_S (zrg ad zsL) s.heap s.heap [] := va_S.rf
  generalize hAe : zrg ad zsL = A at hS ⊢
  have hA : ∀ q, zrg ad zsL q → A q := fun q h => by rw [← hAe]; exact h
  refine lv_aload_n hx hb dX5_perform_0 rfl (lv_at hl 0 rfl) ?_
  refine lv_dup hx hb dX5_perform_1 rfl ?_
  refine zg5_12 X hK hW m_269 dX5_perform_2 ?_
  refine lv_iconst (v := 1) hx hb dX5_perform_5 (by decide) ?_
  refine lv_iadd hx hb dX5_perform_6 ?_
  refine zp5_12 X hK hW hj hA hS m_269 dX5_perform_7 (fun H locs hW hS => ?_)
  refine lv_iload_n hx hb dX5_perform_10 rfl (lv_at hl 1 rfl) ?_
  refine lv_tableIn (off := 263) (tgt := 274) hx hb dX5_perform_11 (by decide) (by decide) rfl (by decide) ?_
  refine lv_aload_n hx hb dX5_perform_274 rfl (lv_at hl 0 rfl) ?_
  refine lv_aload_n hx hb dX5_perform_275 rfl (lv_at hl 0 rfl) ?_
  refine zg5_1 X hK hW m_246 dX5_perform_276 ?_
  refine lv_iload_n hx hb dX5_perform_279 rfl (lv_at hl 2 rfl) ?_
  refine zr2 X hK hW h1 dX5_perform_280 ?_
  refine lv_iload_n hx hb dX5_perform_281 rfl (lv_at hl 3 rfl) ?_
  refine lv_iload hx hb dX5_perform_282 (lv_at hl 4 rfl) ?_
  refine zcallMV (As := [.ref (ad 11 w1.toNatClampNeg), .int w2, .int w3]) (rest := []) X hml hK hW (ctX5_handOut l D cy ad (zpI σ 512 0 ((zI σ 512 0) + 1)) hj w1.toNatClampNeg (zvin h1) w2 w3) zmX5_handOut (by decide) m_574 (zrecv hK (hW 0 0 rfl (by decide)) rfl) ⟨Nat.le_of_ble_eq_true rfl, Nat.le_of_ble_eq_true rfl⟩ ⟨Nat.zero_le _, Nat.zero_le _⟩ rfl hl.1 rfl (Nat.le_of_ble_eq_true rfl) dX5_perform_284 hS hA (fun H locs hW hsz hfr hS => ?_)
  exact zm_i hx hb hr hlocks (by rw [r_X5_perform_18]) (by rw [f_X5_perform_18]; exact hW) hS dX5_perform_287
def f_X5_perform_19 (σ : zS) (w1 : Int32) (w2 : Int32) (w3 : Int32) (w4 : Int32) : zS := if ¬ w2 = 1 then if ¬ w3 = 1 then (f_X5_takeIn (zpI σ 512 0 ((zI σ 512 0) + 1)) w1 false false) else (f_X5_takeIn (zpI σ 512 0 ((zI σ 512 0) + 1)) w1 false true) else if ¬ w3 = 1 then (f_X5_takeIn (zpI σ 512 0 ((zI σ 512 0) + 1)) w1 true false) else (f_X5_takeIn (zpI σ 512 0 ((zI σ 512 0) + 1)) w1 true true)
def r_X5_perform_19 (σ : zS) (w1 : Int32) (w2 : Int32) (w3 : Int32) (w4 : Int32) : Int32 := if ¬ w2 = 1 then if ¬ w3 = 1 then r_X5_takeIn (zpI σ 512 0 ((zI σ 512 0) + 1)) w1 false false else r_X5_takeIn (zpI σ 512 0 ((zI σ 512 0) + 1)) w1 false true else if ¬ w3 = 1 then r_X5_takeIn (zpI σ 512 0 ((zI σ 512 0) + 1)) w1 true false else r_X5_takeIn (zpI σ 512 0 ((zI σ 512 0) + 1)) w1 true true
set_option maxRecDepth 100000 in
set_option maxHeartbeats 4000000 in
theorem ctX5_perform_19 (l : Launch) (D : va_G) (cy : Nat → ClassId) (ad : Nat → Nat → Nat) (σ : zS) (hj : zinj ad zsL) (w1 : Int32) (w2 : Int32) (w3 : Int32) (w4 : Int32) (h1 : vp_in w1 24) (hc : zbd σ 508 12) : Met l yX5_perform (zw yX5_perform cX5_perform 6 (some .int)) (zrm 4) (va_Pc [.ref (ad 0 0), .int 19, .int w1, .int w2, .int w3, .int w4] (zB D cy (zW D cy ad zsL σ))) (zqM (some (.int (r_X5_perform_19 σ w1 w2 w3 w4))) (zW D cy ad zsL (f_X5_perform_19 σ w1 w2 w3 w4)) (zrg ad zsL)) 0 0 (zrg ad zsL) := by
  refine zmet (by decide) rfl (Nat.le_of_ble_eq_true rfl) rfl (fun p e s m below meth c ls X hml hr hlocks hv hl => ?_)
  obtain ⟨hK, hW⟩ := hv
  obtain ⟨hx, hb, -, -⟩ := id X
  have hl : lv_has ls 6 [(0, .ref (ad 0 0)), (1, .int 19), (2, .int w1), (3, .int w2), (4, .int w3), (5, .int w4)] := hl
  have hS : va_S (zrg ad zsL) s.heap s.heap [] := va_S.rf
  generalize hAe : zrg ad zsL = A at hS ⊢
  have hA : ∀ q, zrg ad zsL q → A q := fun q h => by rw [← hAe]; exact h
  refine lv_aload_n hx hb dX5_perform_0 rfl (lv_at hl 0 rfl) ?_
  refine lv_dup hx hb dX5_perform_1 rfl ?_
  refine zg5_12 X hK hW m_269 dX5_perform_2 ?_
  refine lv_iconst (v := 1) hx hb dX5_perform_5 (by decide) ?_
  refine lv_iadd hx hb dX5_perform_6 ?_
  refine zp5_12 X hK hW hj hA hS m_269 dX5_perform_7 (fun H locs hW hS => ?_)
  refine lv_iload_n hx hb dX5_perform_10 rfl (lv_at hl 1 rfl) ?_
  refine lv_tableIn (off := 277) (tgt := 288) hx hb dX5_perform_11 (by decide) (by decide) rfl (by decide) ?_
  refine lv_aload_n hx hb dX5_perform_288 rfl (lv_at hl 0 rfl) ?_
  refine lv_iload_n hx hb dX5_perform_289 rfl (lv_at hl 2 rfl) ?_
  refine lv_iload_n hx hb dX5_perform_290 rfl (lv_at hl 3 rfl) ?_
  refine lv_iconst (v := 1) hx hb dX5_perform_291 (by decide) ?_
  refine lv_icmp_ne (tgt := 299) hx hb dX5_perform_292 (by decide) (fun b1 => ?_) (fun b1 => ?_)
  · refine lv_iconst (v := 0) hx hb dX5_perform_299 (by decide) ?_
    refine lv_iload hx hb dX5_perform_300 (lv_at hl 4 rfl) ?_
    refine lv_iconst (v := 1) hx hb dX5_perform_302 (by decide) ?_
    refine lv_icmp_ne (tgt := 310) hx hb dX5_perform_303 (by decide) (fun b2 => ?_) (fun b2 => ?_)
    · refine lv_iconst (v := 0) hx hb dX5_perform_310 (by decide) ?_
      refine zcallMV (As := [.int w1, .int (bI false), .int (bI false)]) (rest := []) X hml hK hW (ctX5_takeIn l D cy ad (zpI σ 512 0 ((zI σ 512 0) + 1)) hj w1 false false h1 (zbd_pI (by decide) hc)) zmX5_takeIn (by decide) m_578 (zrecv hK (hW 0 0 rfl (by decide)) rfl) ⟨Nat.le_of_ble_eq_true rfl, Nat.le_of_ble_eq_true rfl⟩ ⟨Nat.zero_le _, Nat.zero_le _⟩ rfl hl.1 rfl (Nat.le_of_ble_eq_true rfl) dX5_perform_311 hS hA (fun H locs hW hsz hfr hS => ?_)
      exact zm_i hx hb hr hlocks (by rw [r_X5_perform_19, if_pos b1, if_pos b2]) (by rw [f_X5_perform_19, if_pos b1, if_pos b2]; exact hW) hS dX5_perform_314
    · refine lv_iconst (v := 1) hx hb dX5_perform_306 (by decide) ?_
      refine lv_goto (tgt := 311) hx hb dX5_perform_307 (by decide) ?_
      refine zcallMV (As := [.int w1, .int (bI false), .int (bI true)]) (rest := []) X hml hK hW (ctX5_takeIn l D cy ad (zpI σ 512 0 ((zI σ 512 0) + 1)) hj w1 false true h1 (zbd_pI (by decide) hc)) zmX5_takeIn (by decide) m_578 (zrecv hK (hW 0 0 rfl (by decide)) rfl) ⟨Nat.le_of_ble_eq_true rfl, Nat.le_of_ble_eq_true rfl⟩ ⟨Nat.zero_le _, Nat.zero_le _⟩ rfl hl.1 rfl (Nat.le_of_ble_eq_true rfl) dX5_perform_311 hS hA (fun H locs hW hsz hfr hS => ?_)
      exact zm_i hx hb hr hlocks (by rw [r_X5_perform_19, if_pos b1, if_neg (not_not_intro b2)]) (by rw [f_X5_perform_19, if_pos b1, if_neg (not_not_intro b2)]; exact hW) hS dX5_perform_314
  · refine lv_iconst (v := 1) hx hb dX5_perform_295 (by decide) ?_
    refine lv_goto (tgt := 300) hx hb dX5_perform_296 (by decide) ?_
    refine lv_iload hx hb dX5_perform_300 (lv_at hl 4 rfl) ?_
    refine lv_iconst (v := 1) hx hb dX5_perform_302 (by decide) ?_
    refine lv_icmp_ne (tgt := 310) hx hb dX5_perform_303 (by decide) (fun b3 => ?_) (fun b3 => ?_)
    · refine lv_iconst (v := 0) hx hb dX5_perform_310 (by decide) ?_
      refine zcallMV (As := [.int w1, .int (bI true), .int (bI false)]) (rest := []) X hml hK hW (ctX5_takeIn l D cy ad (zpI σ 512 0 ((zI σ 512 0) + 1)) hj w1 true false h1 (zbd_pI (by decide) hc)) zmX5_takeIn (by decide) m_578 (zrecv hK (hW 0 0 rfl (by decide)) rfl) ⟨Nat.le_of_ble_eq_true rfl, Nat.le_of_ble_eq_true rfl⟩ ⟨Nat.zero_le _, Nat.zero_le _⟩ rfl hl.1 rfl (Nat.le_of_ble_eq_true rfl) dX5_perform_311 hS hA (fun H locs hW hsz hfr hS => ?_)
      exact zm_i hx hb hr hlocks (by rw [r_X5_perform_19, if_neg (not_not_intro b1), if_pos b3]) (by rw [f_X5_perform_19, if_neg (not_not_intro b1), if_pos b3]; exact hW) hS dX5_perform_314
    · refine lv_iconst (v := 1) hx hb dX5_perform_306 (by decide) ?_
      refine lv_goto (tgt := 311) hx hb dX5_perform_307 (by decide) ?_
      refine zcallMV (As := [.int w1, .int (bI true), .int (bI true)]) (rest := []) X hml hK hW (ctX5_takeIn l D cy ad (zpI σ 512 0 ((zI σ 512 0) + 1)) hj w1 true true h1 (zbd_pI (by decide) hc)) zmX5_takeIn (by decide) m_578 (zrecv hK (hW 0 0 rfl (by decide)) rfl) ⟨Nat.le_of_ble_eq_true rfl, Nat.le_of_ble_eq_true rfl⟩ ⟨Nat.zero_le _, Nat.zero_le _⟩ rfl hl.1 rfl (Nat.le_of_ble_eq_true rfl) dX5_perform_311 hS hA (fun H locs hW hsz hfr hS => ?_)
      exact zm_i hx hb hr hlocks (by rw [r_X5_perform_19, if_neg (not_not_intro b1), if_neg (not_not_intro b3)]) (by rw [f_X5_perform_19, if_neg (not_not_intro b1), if_neg (not_not_intro b3)]; exact hW) hS dX5_perform_314
