def f_X5_noteFindingIfRoom (σ : zS) (x : Int32) : zS := if 12 ≤ (zI σ 508 0) then σ else (f_X5_noteFinding σ x)
theorem zmX5_noteFindingIfRoom : zmV yX5_noteFindingIfRoom RX5 cX5_noteFindingIfRoom 2 none 1 := ⟨m_572, s_22, m_2, m_573, rfl, by decide, by decide, by decide +kernel⟩
set_option maxRecDepth 100000 in
set_option maxHeartbeats 4000000 in
theorem ctX5_noteFindingIfRoom (l : Launch) (D : va_G) (cy : Nat → ClassId) (ad : Nat → Nat → Nat) (σ : zS) (hj : zinj ad zsL) (x : Int32) (h1 : vp_in x 24) (hc : zbd σ 508 12) : Met l yX5_noteFindingIfRoom (zw yX5_noteFindingIfRoom cX5_noteFindingIfRoom 2 none) (zrm 2) (va_Pc [.ref (ad 0 0), .int x] (zB D cy (zW D cy ad zsL σ))) (zqM none (zW D cy ad zsL (f_X5_noteFindingIfRoom σ x)) (zrg ad zsL)) 0 0 (zrg ad zsL) := by
  refine zmet (by decide) rfl (Nat.le_of_ble_eq_true rfl) rfl (fun p e s m below meth c ls X hml hr hlocks hv hl => ?_)
  obtain ⟨hK, hW⟩ := hv
  obtain ⟨hx, hb, -, -⟩ := id X
  have hl : lv_has ls 2 [(0, .ref (ad 0 0)), (1, .int x)] := hl
  have hS : va_S (zrg ad zsL) s.heap s.heap [] := va_S.rf
  generalize hAe : zrg ad zsL = A at hS ⊢
  have hA : ∀ q, zrg ad zsL q → A q := fun q h => by rw [← hAe]; exact h
  refine lv_aload_n hx hb dX5_noteFindingIfRoom_0 rfl (lv_at hl 0 rfl) ?_
  refine zg5_8 X hK hW m_262 dX5_noteFindingIfRoom_1 ?_
  refine lv_bipush (v := 12) hx hb dX5_noteFindingIfRoom_4 (by decide) ?_
  refine lv_icmp_ge (tgt := 15) hx hb dX5_noteFindingIfRoom_6 (by decide) (fun b1 => ?_) (fun b1 => ?_)
  · exact zm_v hx hb hr hlocks (by rw [f_X5_noteFindingIfRoom, if_pos b1]; exact hW) hS dX5_noteFindingIfRoom_15
  · refine lv_aload_n hx hb dX5_noteFindingIfRoom_9 rfl (lv_at hl 0 rfl) ?_
    refine lv_iload_n hx hb dX5_noteFindingIfRoom_10 rfl (lv_at hl 1 rfl) ?_
    refine zcallMV (As := [.int x]) (rest := []) X hml hK hW (ctX5_noteFinding l D cy ad σ hj x h1 (by rw [hc.1]; exact vp_in_nI (zlt_c (N := 12) (by decide) hc.2 (by have h9 := b1; rw [hc.1] at h9; exact h9)) (by decide))) zmX5_noteFinding (by decide) m_538 (zrecv hK (hW 0 0 rfl (by decide)) rfl) ⟨Nat.le_of_ble_eq_true rfl, Nat.le_of_ble_eq_true rfl⟩ ⟨Nat.zero_le _, Nat.zero_le _⟩ rfl hl.1 rfl (Nat.le_of_ble_eq_true rfl) dX5_noteFindingIfRoom_11 hS hA (fun H locs hW hsz hfr hS => ?_)
    refine lv_pop hx hb dX5_noteFindingIfRoom_14 rfl ?_
    exact zm_v hx hb hr hlocks (by rw [f_X5_noteFindingIfRoom, if_neg b1]; exact hW) hS dX5_noteFindingIfRoom_15
theorem zbd_nd {σ : zS} {u : Nat} {gd : Bool} {tk : Int32} {g N : Nat} (hg : 500 ≤ g) (h : zbd σ g N) : zbd (f_X1_noteDrop σ u gd tk) g N := by
  unfold f_X1_noteDrop
  split <;> (repeat (refine zbd_pI (by omega) ?_)) <;> exact h
def f_X5_tryOut (σ : zS) (x : Int32) (gd : Bool) : zS := if gd = true then (f_X1_noteDrop (zpI σ 105 x.toNatClampNeg 111) x.toNatClampNeg gd (zI (zpI σ 105 x.toNatClampNeg 111) 512 0)) else (f_X5_noteFindingIfRoom (f_X1_noteDrop (zpI σ 105 x.toNatClampNeg 111) x.toNatClampNeg gd (zI (zpI σ 105 x.toNatClampNeg 111) 512 0)) x)
def r_X5_tryOut (σ : zS) (x : Int32) (gd : Bool) : Int32 := if gd = true then zI (f_X1_noteDrop (zpI σ 105 x.toNatClampNeg 111) x.toNatClampNeg gd (zI (zpI σ 105 x.toNatClampNeg 111) 512 0)) 115 x.toNatClampNeg else zI (f_X5_noteFindingIfRoom (f_X1_noteDrop (zpI σ 105 x.toNatClampNeg 111) x.toNatClampNeg gd (zI (zpI σ 105 x.toNatClampNeg 111) 512 0)) x) 115 x.toNatClampNeg
theorem zmX5_tryOut : zmV yX5_tryOut RX5 cX5_tryOut 4 (some .int) 2 := ⟨m_564, s_21, m_2, m_565, rfl, by decide, by decide, by decide +kernel⟩
set_option maxRecDepth 100000 in
set_option maxHeartbeats 4000000 in
theorem ctX5_tryOut (l : Launch) (D : va_G) (cy : Nat → ClassId) (ad : Nat → Nat → Nat) (σ : zS) (hj : zinj ad zsL) (x : Int32) (gd : Bool) (h1 : vp_in x 24) (hc : zbd σ 508 12) : Met l yX5_tryOut (zw yX5_tryOut cX5_tryOut 4 (some .int)) (zrm 3) (va_Pc [.ref (ad 0 0), .int x, .int (bI gd)] (zB D cy (zW D cy ad zsL σ))) (zqM (some (.int (r_X5_tryOut σ x gd))) (zW D cy ad zsL (f_X5_tryOut σ x gd)) (zrg ad zsL)) 0 0 (zrg ad zsL) := by
  refine zmet (by decide) rfl (Nat.le_of_ble_eq_true rfl) rfl (fun p e s m below meth c ls X hml hr hlocks hv hl => ?_)
  obtain ⟨hK, hW⟩ := hv
  obtain ⟨hx, hb, -, -⟩ := id X
  have hl : lv_has ls 4 [(0, .ref (ad 0 0)), (1, .int x), (2, .int (bI gd))] := hl
  have hS : va_S (zrg ad zsL) s.heap s.heap [] := va_S.rf
  generalize hAe : zrg ad zsL = A at hS ⊢
  have hA : ∀ q, zrg ad zsL q → A q := fun q h => by rw [← hAe]; exact h
  refine lv_aload_n hx hb dX5_tryOut_0 rfl (lv_at hl 0 rfl) ?_
  refine zg5_1 X hK hW m_246 dX5_tryOut_1 ?_
  refine lv_iload_n hx hb dX5_tryOut_4 rfl (lv_at hl 1 rfl) ?_
  refine zr2 X hK hW h1 dX5_tryOut_5 ?_
  refine lv_astore_n (lv' := [(3, .ref (ad 11 x.toNatClampNeg)), (0, .ref (ad 0 0)), (1, .int x), (2, .int (bI gd))]) hx hb dX5_tryOut_6 rfl hl (by decide) rfl (fun ls hl => ?_)
  refine lv_aload_n hx hb dX5_tryOut_7 rfl (lv_at hl 0 rfl) ?_
  refine lv_bipush (v := 111) hx hb dX5_tryOut_8 (by decide) ?_
  refine zp1_5 X hK hW hj hA hS (zvin h1) rfl rfl m_107 dX5_tryOut_10 (fun H locs hW hS => ?_)
  refine lv_aload_n hx hb dX5_tryOut_13 rfl (lv_at hl 0 rfl) ?_
  refine lv_iload_n hx hb dX5_tryOut_14 rfl (lv_at hl 3 rfl) ?_
  refine lv_aload_n hx hb dX5_tryOut_15 rfl (lv_at hl 1 rfl) ?_
  refine zg5_12 X hK hW m_269 dX5_tryOut_16 ?_
  refine zcallMV (As := [.int (bI gd), .int (zI (zpI σ 105 x.toNatClampNeg 111) 512 0)]) (rest := []) X hml hK hW (ctX1_noteDrop l D cy ad (zpI σ 105 x.toNatClampNeg 111) hj x.toNatClampNeg (zvin h1) gd (zI (zpI σ 105 x.toNatClampNeg 111) 512 0)) zmX1_noteDrop (by decide) m_566 (zrecv hK (hW 11 x.toNatClampNeg rfl (zvin h1)) rfl) ⟨Nat.le_of_ble_eq_true rfl, Nat.le_of_ble_eq_true rfl⟩ ⟨Nat.zero_le _, Nat.zero_le _⟩ rfl hl.1 rfl (Nat.le_of_ble_eq_true rfl) dX5_tryOut_19 hS hA (fun H locs hW hsz hfr hS => ?_)
  refine lv_iload_n hx hb dX5_tryOut_22 rfl (lv_at hl 3 rfl) ?_
  refine zb_ne (tgt := 31) hx hb dX5_tryOut_23 (by decide) (fun b1 => ?_) (fun b1 => ?_)
  · refine lv_aload_n hx hb dX5_tryOut_31 rfl (lv_at hl 0 rfl) ?_
    refine zg1_15 X hK hW (zvin h1) m_131 dX5_tryOut_32 ?_
    exact zm_i hx hb hr hlocks (by rw [r_X5_tryOut, if_pos b1]) (by rw [f_X5_tryOut, if_pos b1]; exact hW) hS dX5_tryOut_35
  · refine lv_aload_n hx hb dX5_tryOut_26 rfl (lv_at hl 1 rfl) ?_
    refine lv_iload_n hx hb dX5_tryOut_27 rfl (lv_at hl 2 rfl) ?_
    refine zcallMV (As := [.int x]) (rest := []) X hml hK hW (ctX5_noteFindingIfRoom l D cy ad (f_X1_noteDrop (zpI σ 105 x.toNatClampNeg 111) x.toNatClampNeg gd (zI (zpI σ 105 x.toNatClampNeg 111) 512 0)) hj x h1 (zbd_nd (by decide) (zbd_pI (by decide) hc))) zmX5_noteFindingIfRoom (by decide) m_570 (zrecv hK (hW 0 0 rfl (by decide)) rfl) ⟨Nat.le_of_ble_eq_true rfl, Nat.le_of_ble_eq_true rfl⟩ ⟨Nat.zero_le _, Nat.zero_le _⟩ rfl hl.1 rfl (Nat.le_of_ble_eq_true rfl) dX5_tryOut_28 hS hA (fun H locs hW hsz hfr hS => ?_)
    refine lv_aload_n hx hb dX5_tryOut_31 rfl (lv_at hl 0 rfl) ?_
    refine zg1_15 X hK hW (zvin h1) m_131 dX5_tryOut_32 ?_
    exact zm_i hx hb hr hlocks (by rw [r_X5_tryOut, if_neg (by simp [b1])]) (by rw [f_X5_tryOut, if_neg (by simp [b1])]; exact hW) hS dX5_tryOut_35
def f_X5_takeIn (σ : zS) (x : Int32) (us : Bool) (dm : Bool) : zS := if dm = false then if us = false then if dm = false then (zpI (zpI (zpI (zpL σ 511 0 ((zL σ 511 0) + (((zI σ 119 x.toNatClampNeg) - (k_max 0 ((zI σ 119 x.toNatClampNeg) - ((5 * (k_max 0 ((zI σ 509 0) - (zI σ 118 x.toNatClampNeg)))) + 0)))).toInt64))) 105 x.toNatClampNeg 107) 118 x.toNatClampNeg 0) 119 x.toNatClampNeg 0) else (f_X5_noteFindingIfRoom (zpI (zpI (zpI (zpL σ 511 0 ((zL σ 511 0) + (((zI σ 119 x.toNatClampNeg) - (k_max 0 ((zI σ 119 x.toNatClampNeg) - ((5 * (k_max 0 ((zI σ 509 0) - (zI σ 118 x.toNatClampNeg)))) + 0)))).toInt64))) 105 x.toNatClampNeg 107) 118 x.toNatClampNeg 0) 119 x.toNatClampNeg 0) x) else if dm = false then (zpI (zpI (zpI (zpL σ 511 0 ((zL σ 511 0) + (((zI σ 119 x.toNatClampNeg) - (k_max 0 ((zI σ 119 x.toNatClampNeg) - ((5 * (k_max 0 ((zI σ 509 0) - (zI σ 118 x.toNatClampNeg)))) + 0)))).toInt64))) 105 x.toNatClampNeg 111) 118 x.toNatClampNeg 0) 119 x.toNatClampNeg 0) else (f_X5_noteFindingIfRoom (zpI (zpI (zpI (zpL σ 511 0 ((zL σ 511 0) + (((zI σ 119 x.toNatClampNeg) - (k_max 0 ((zI σ 119 x.toNatClampNeg) - ((5 * (k_max 0 ((zI σ 509 0) - (zI σ 118 x.toNatClampNeg)))) + 0)))).toInt64))) 105 x.toNatClampNeg 111) 118 x.toNatClampNeg 0) 119 x.toNatClampNeg 0) x) else if us = false then if dm = false then (zpI (zpI (zpI (zpL σ 511 0 ((zL σ 511 0) + (((zI σ 119 x.toNatClampNeg) - (k_max 0 ((zI σ 119 x.toNatClampNeg) - ((5 * (k_max 0 ((zI σ 509 0) - (zI σ 118 x.toNatClampNeg)))) + 50)))).toInt64))) 105 x.toNatClampNeg 107) 118 x.toNatClampNeg 0) 119 x.toNatClampNeg 0) else (f_X5_noteFindingIfRoom (zpI (zpI (zpI (zpL σ 511 0 ((zL σ 511 0) + (((zI σ 119 x.toNatClampNeg) - (k_max 0 ((zI σ 119 x.toNatClampNeg) - ((5 * (k_max 0 ((zI σ 509 0) - (zI σ 118 x.toNatClampNeg)))) + 50)))).toInt64))) 105 x.toNatClampNeg 107) 118 x.toNatClampNeg 0) 119 x.toNatClampNeg 0) x) else if dm = false then (zpI (zpI (zpI (zpL σ 511 0 ((zL σ 511 0) + (((zI σ 119 x.toNatClampNeg) - (k_max 0 ((zI σ 119 x.toNatClampNeg) - ((5 * (k_max 0 ((zI σ 509 0) - (zI σ 118 x.toNatClampNeg)))) + 50)))).toInt64))) 105 x.toNatClampNeg 111) 118 x.toNatClampNeg 0) 119 x.toNatClampNeg 0) else (f_X5_noteFindingIfRoom (zpI (zpI (zpI (zpL σ 511 0 ((zL σ 511 0) + (((zI σ 119 x.toNatClampNeg) - (k_max 0 ((zI σ 119 x.toNatClampNeg) - ((5 * (k_max 0 ((zI σ 509 0) - (zI σ 118 x.toNatClampNeg)))) + 50)))).toInt64))) 105 x.toNatClampNeg 111) 118 x.toNatClampNeg 0) 119 x.toNatClampNeg 0) x)
def r_X5_takeIn (σ : zS) (x : Int32) (us : Bool) (dm : Bool) : Int32 := if dm = false then if us = false then if dm = false then k_max 0 ((zI σ 119 x.toNatClampNeg) - ((5 * (k_max 0 ((zI σ 509 0) - (zI σ 118 x.toNatClampNeg)))) + 0)) else k_max 0 ((zI σ 119 x.toNatClampNeg) - ((5 * (k_max 0 ((zI σ 509 0) - (zI σ 118 x.toNatClampNeg)))) + 0)) else if dm = false then k_max 0 ((zI σ 119 x.toNatClampNeg) - ((5 * (k_max 0 ((zI σ 509 0) - (zI σ 118 x.toNatClampNeg)))) + 0)) else k_max 0 ((zI σ 119 x.toNatClampNeg) - ((5 * (k_max 0 ((zI σ 509 0) - (zI σ 118 x.toNatClampNeg)))) + 0)) else if us = false then if dm = false then k_max 0 ((zI σ 119 x.toNatClampNeg) - ((5 * (k_max 0 ((zI σ 509 0) - (zI σ 118 x.toNatClampNeg)))) + 50)) else k_max 0 ((zI σ 119 x.toNatClampNeg) - ((5 * (k_max 0 ((zI σ 509 0) - (zI σ 118 x.toNatClampNeg)))) + 50)) else if dm = false then k_max 0 ((zI σ 119 x.toNatClampNeg) - ((5 * (k_max 0 ((zI σ 509 0) - (zI σ 118 x.toNatClampNeg)))) + 50)) else k_max 0 ((zI σ 119 x.toNatClampNeg) - ((5 * (k_max 0 ((zI σ 509 0) - (zI σ 118 x.toNatClampNeg)))) + 50))
theorem zmX5_takeIn : zmV yX5_takeIn RX5 cX5_takeIn 8 (some .int) 3 := ⟨m_580, s_24, m_2, m_581, rfl, by decide, by decide, by decide +kernel⟩
set_option maxRecDepth 100000 in
set_option maxHeartbeats 4000000 in
theorem ctX5_takeIn (l : Launch) (D : va_G) (cy : Nat → ClassId) (ad : Nat → Nat → Nat) (σ : zS) (hj : zinj ad zsL) (x : Int32) (us : Bool) (dm : Bool) (h1 : vp_in x 24) (hc : zbd σ 508 12) : Met l yX5_takeIn (zw yX5_takeIn cX5_takeIn 8 (some .int)) (zrm 3) (va_Pc [.ref (ad 0 0), .int x, .int (bI us), .int (bI dm)] (zB D cy (zW D cy ad zsL σ))) (zqM (some (.int (r_X5_takeIn σ x us dm))) (zW D cy ad zsL (f_X5_takeIn σ x us dm)) (zrg ad zsL)) 0 0 (zrg ad zsL) := by
  refine zmet (by decide) rfl (Nat.le_of_ble_eq_true rfl) rfl (fun p e s m below meth c ls X hml hr hlocks hv hl => ?_)
  obtain ⟨hK, hW⟩ := hv
  obtain ⟨hx, hb, -, -⟩ := id X
  have hl : lv_has ls 8 [(0, .ref (ad 0 0)), (1, .int x), (2, .int (bI us)), (3, .int (bI dm))] := hl
  have hS : va_S (zrg ad zsL) s.heap s.heap [] := va_S.rf
  generalize hAe : zrg ad zsL = A at hS ⊢
  have hA : ∀ q, zrg ad zsL q → A q := fun q h => by rw [← hAe]; exact h
  refine lv_aload_n hx hb dX5_takeIn_0 rfl (lv_at hl 0 rfl) ?_
  refine zg5_1 X hK hW m_246 dX5_takeIn_1 ?_
  refine lv_iload_n hx hb dX5_takeIn_4 rfl (lv_at hl 1 rfl) ?_
  refine zr2 X hK hW h1 dX5_takeIn_5 ?_
  refine lv_astore (lv' := [(4, .ref (ad 11 x.toNatClampNeg)), (0, .ref (ad 0 0)), (1, .int x), (2, .int (bI us)), (3, .int (bI dm))]) hx hb dX5_takeIn_6 hl (by decide) rfl (fun ls hl => ?_)
  refine lv_iconst (v := 0) hx hb dX5_takeIn_8 (by decide) ?_
  refine lv_aload_n hx hb dX5_takeIn_9 rfl (lv_at hl 1 rfl) ?_
  refine zg5_9 X hK hW m_264 dX5_takeIn_10 ?_
  refine lv_aload hx hb dX5_takeIn_13 (lv_at hl 0 rfl) ?_
  refine zg1_18 X hK hW (zvin h1) m_136 dX5_takeIn_15 ?_
  refine lv_isub hx hb dX5_takeIn_18 ?_
  refine z_max (x := 0) (y := (zI σ 509 0) - (zI σ 118 x.toNatClampNeg)) X hml hl.1 m_582 ⟨Nat.le_of_ble_eq_true rfl, Nat.le_of_ble_eq_true rfl⟩ ⟨Nat.zero_le _, Nat.zero_le _⟩ (Nat.le_of_ble_eq_true rfl) dX5_takeIn_19 ?_
  refine lv_istore (lv' := [(5, .int (k_max 0 ((zI σ 509 0) - (zI σ 118 x.toNatClampNeg)))), (4, .ref (ad 11 x.toNatClampNeg)), (0, .ref (ad 0 0)), (1, .int x), (2, .int (bI us)), (3, .int (bI dm))]) hx hb dX5_takeIn_22 hl (by decide) rfl (fun ls hl => ?_)
  refine lv_iconst (v := 5) hx hb dX5_takeIn_24 (by decide) ?_
  refine lv_iload hx hb dX5_takeIn_25 (lv_at hl 0 rfl) ?_
  refine lv_imul hx hb dX5_takeIn_27 ?_
  refine lv_iload_n hx hb dX5_takeIn_28 rfl (lv_at hl 5 rfl) ?_
  refine zb_eq (tgt := 37) hx hb dX5_takeIn_29 (by decide) (fun b1 => ?_) (fun b1 => ?_)
  · refine lv_iconst (v := 0) hx hb dX5_takeIn_37 (by decide) ?_
    refine lv_iadd hx hb dX5_takeIn_38 ?_
    refine lv_istore (lv' := [(6, .int ((5 * (k_max 0 ((zI σ 509 0) - (zI σ 118 x.toNatClampNeg)))) + 0)), (5, .int (k_max 0 ((zI σ 509 0) - (zI σ 118 x.toNatClampNeg)))), (4, .ref (ad 11 x.toNatClampNeg)), (0, .ref (ad 0 0)), (1, .int x), (2, .int (bI us)), (3, .int (bI dm))]) hx hb dX5_takeIn_39 hl (by decide) rfl (fun ls hl => ?_)
    refine lv_iconst (v := 0) hx hb dX5_takeIn_41 (by decide) ?_
    refine lv_aload hx hb dX5_takeIn_42 (lv_at hl 2 rfl) ?_
    refine zg1_19 X hK hW (zvin h1) m_138 dX5_takeIn_44 ?_
    refine lv_iload hx hb dX5_takeIn_47 (lv_at hl 0 rfl) ?_
    refine lv_isub hx hb dX5_takeIn_49 ?_
    refine z_max (x := 0) (y := (zI σ 119 x.toNatClampNeg) - ((5 * (k_max 0 ((zI σ 509 0) - (zI σ 118 x.toNatClampNeg)))) + 0)) X hml hl.1 m_582 ⟨Nat.le_of_ble_eq_true rfl, Nat.le_of_ble_eq_true rfl⟩ ⟨Nat.zero_le _, Nat.zero_le _⟩ (Nat.le_of_ble_eq_true rfl) dX5_takeIn_50 ?_
    refine lv_istore (lv' := [(7, .int (k_max 0 ((zI σ 119 x.toNatClampNeg) - ((5 * (k_max 0 ((zI σ 509 0) - (zI σ 118 x.toNatClampNeg)))) + 0)))), (6, .int ((5 * (k_max 0 ((zI σ 509 0) - (zI σ 118 x.toNatClampNeg)))) + 0)), (5, .int (k_max 0 ((zI σ 509 0) - (zI σ 118 x.toNatClampNeg)))), (4, .ref (ad 11 x.toNatClampNeg)), (0, .ref (ad 0 0)), (1, .int x), (2, .int (bI us)), (3, .int (bI dm))]) hx hb dX5_takeIn_53 hl (by decide) rfl (fun ls hl => ?_)
    refine lv_aload_n hx hb dX5_takeIn_55 rfl (lv_at hl 4 rfl) ?_
    refine lv_dup hx hb dX5_takeIn_56 rfl ?_
    refine zg5_11 X hK hW m_267 dX5_takeIn_57 ?_
    refine lv_aload hx hb dX5_takeIn_60 (lv_at hl 3 rfl) ?_
    refine zg1_19 X hK hW (zvin h1) m_138 dX5_takeIn_62 ?_
    refine lv_iload hx hb dX5_takeIn_65 (lv_at hl 0 rfl) ?_
    refine lv_isub hx hb dX5_takeIn_67 ?_
    refine lv_i2l hx hb dX5_takeIn_68 rfl ?_
    refine lv_ladd hx hb dX5_takeIn_69 ?_
    refine zp5_11 X hK hW hj hA hS m_267 dX5_takeIn_70 (fun H locs hW hS => ?_)
    refine lv_aload hx hb dX5_takeIn_73 (lv_at hl 3 rfl) ?_
    refine lv_iload_n hx hb dX5_takeIn_75 rfl (lv_at hl 6 rfl) ?_
    refine zb_eq (tgt := 84) hx hb dX5_takeIn_76 (by decide) (fun b2 => ?_) (fun b2 => ?_)
    · refine lv_bipush (v := 107) hx hb dX5_takeIn_84 (by decide) ?_
      refine zp1_5 X hK hW hj hA hS (zvin h1) rfl rfl m_107 dX5_takeIn_86 (fun H locs hW hS => ?_)
      refine lv_aload hx hb dX5_takeIn_89 (lv_at hl 3 rfl) ?_
      refine lv_iconst (v := 0) hx hb dX5_takeIn_91 (by decide) ?_
      refine zp1_18 X hK hW hj hA hS (zvin h1) m_136 dX5_takeIn_92 (fun H locs hW hS => ?_)
      refine lv_aload hx hb dX5_takeIn_95 (lv_at hl 3 rfl) ?_
      refine lv_iconst (v := 0) hx hb dX5_takeIn_97 (by decide) ?_
      refine zp1_19 X hK hW hj hA hS (zvin h1) m_138 dX5_takeIn_98 (fun H locs hW hS => ?_)
      refine lv_iload_n hx hb dX5_takeIn_101 rfl (lv_at hl 7 rfl) ?_
      refine zb_eq (tgt := 110) hx hb dX5_takeIn_102 (by decide) (fun b3 => ?_) (fun b3 => ?_)
      · refine lv_iload hx hb dX5_takeIn_110 (lv_at hl 0 rfl) ?_
        exact zm_i hx hb hr hlocks (by rw [r_X5_takeIn, if_pos b1, if_pos b2, if_pos b3]) (by rw [f_X5_takeIn, if_pos b1, if_pos b2, if_pos b3]; exact hW) hS dX5_takeIn_112
      · refine lv_aload_n hx hb dX5_takeIn_105 rfl (lv_at hl 4 rfl) ?_
        refine lv_iload_n hx hb dX5_takeIn_106 rfl (lv_at hl 5 rfl) ?_
        refine zcallMV (As := [.int x]) (rest := []) X hml hK hW (ctX5_noteFindingIfRoom l D cy ad (zpI (zpI (zpI (zpL σ 511 0 ((zL σ 511 0) + (((zI σ 119 x.toNatClampNeg) - (k_max 0 ((zI σ 119 x.toNatClampNeg) - ((5 * (k_max 0 ((zI σ 509 0) - (zI σ 118 x.toNatClampNeg)))) + 0)))).toInt64))) 105 x.toNatClampNeg 107) 118 x.toNatClampNeg 0) 119 x.toNatClampNeg 0) hj x h1 (by repeat (first | exact hc | refine zbd_pI (by decide) ?_ | refine zbd_pL ?_))) zmX5_noteFindingIfRoom (by decide) m_570 (zrecv hK (hW 0 0 rfl (by decide)) rfl) ⟨Nat.le_of_ble_eq_true rfl, Nat.le_of_ble_eq_true rfl⟩ ⟨Nat.zero_le _, Nat.zero_le _⟩ rfl hl.1 rfl (Nat.le_of_ble_eq_true rfl) dX5_takeIn_107 hS hA (fun H locs hW hsz hfr hS => ?_)
        refine lv_iload hx hb dX5_takeIn_110 (lv_at hl 0 rfl) ?_
        exact zm_i hx hb hr hlocks (by rw [r_X5_takeIn, if_pos b1, if_pos b2, if_neg (by simp [b3])]) (by rw [f_X5_takeIn, if_pos b1, if_pos b2, if_neg (by simp [b3])]; exact hW) hS dX5_takeIn_112
    · refine lv_bipush (v := 111) hx hb dX5_takeIn_79 (by decide) ?_
      refine lv_goto (tgt := 86) hx hb dX5_takeIn_81 (by decide) ?_
      refine zp1_5 X hK hW hj hA hS (zvin h1) rfl rfl m_107 dX5_takeIn_86 (fun H locs hW hS => ?_)
      refine lv_aload hx hb dX5_takeIn_89 (lv_at hl 3 rfl) ?_
      refine lv_iconst (v := 0) hx hb dX5_takeIn_91 (by decide) ?_
      refine zp1_18 X hK hW hj hA hS (zvin h1) m_136 dX5_takeIn_92 (fun H locs hW hS => ?_)
      refine lv_aload hx hb dX5_takeIn_95 (lv_at hl 3 rfl) ?_
      refine lv_iconst (v := 0) hx hb dX5_takeIn_97 (by decide) ?_
      refine zp1_19 X hK hW hj hA hS (zvin h1) m_138 dX5_takeIn_98 (fun H locs hW hS => ?_)
      refine lv_iload_n hx hb dX5_takeIn_101 rfl (lv_at hl 7 rfl) ?_
      refine zb_eq (tgt := 110) hx hb dX5_takeIn_102 (by decide) (fun b4 => ?_) (fun b4 => ?_)
      · refine lv_iload hx hb dX5_takeIn_110 (lv_at hl 0 rfl) ?_
        exact zm_i hx hb hr hlocks (by rw [r_X5_takeIn, if_pos b1, if_neg (by simp [b2]), if_pos b4]) (by rw [f_X5_takeIn, if_pos b1, if_neg (by simp [b2]), if_pos b4]; exact hW) hS dX5_takeIn_112
      · refine lv_aload_n hx hb dX5_takeIn_105 rfl (lv_at hl 4 rfl) ?_
        refine lv_iload_n hx hb dX5_takeIn_106 rfl (lv_at hl 5 rfl) ?_
        refine zcallMV (As := [.int x]) (rest := []) X hml hK hW (ctX5_noteFindingIfRoom l D cy ad (zpI (zpI (zpI (zpL σ 511 0 ((zL σ 511 0) + (((zI σ 119 x.toNatClampNeg) - (k_max 0 ((zI σ 119 x.toNatClampNeg) - ((5 * (k_max 0 ((zI σ 509 0) - (zI σ 118 x.toNatClampNeg)))) + 0)))).toInt64))) 105 x.toNatClampNeg 111) 118 x.toNatClampNeg 0) 119 x.toNatClampNeg 0) hj x h1 (by repeat (first | exact hc | refine zbd_pI (by decide) ?_ | refine zbd_pL ?_))) zmX5_noteFindingIfRoom (by decide) m_570 (zrecv hK (hW 0 0 rfl (by decide)) rfl) ⟨Nat.le_of_ble_eq_true rfl, Nat.le_of_ble_eq_true rfl⟩ ⟨Nat.zero_le _, Nat.zero_le _⟩ rfl hl.1 rfl (Nat.le_of_ble_eq_true rfl) dX5_takeIn_107 hS hA (fun H locs hW hsz hfr hS => ?_)
        refine lv_iload hx hb dX5_takeIn_110 (lv_at hl 0 rfl) ?_
        exact zm_i hx hb hr hlocks (by rw [r_X5_takeIn, if_pos b1, if_neg (by simp [b2]), if_neg (by simp [b4])]) (by rw [f_X5_takeIn, if_pos b1, if_neg (by simp [b2]), if_neg (by simp [b4])]; exact hW) hS dX5_takeIn_112
  · refine lv_bipush (v := 50) hx hb dX5_takeIn_32 (by decide) ?_
    refine lv_goto (tgt := 38) hx hb dX5_takeIn_34 (by decide) ?_
    refine lv_iadd hx hb dX5_takeIn_38 ?_
    refine lv_istore (lv' := [(6, .int ((5 * (k_max 0 ((zI σ 509 0) - (zI σ 118 x.toNatClampNeg)))) + 50)), (5, .int (k_max 0 ((zI σ 509 0) - (zI σ 118 x.toNatClampNeg)))), (4, .ref (ad 11 x.toNatClampNeg)), (0, .ref (ad 0 0)), (1, .int x), (2, .int (bI us)), (3, .int (bI dm))]) hx hb dX5_takeIn_39 hl (by decide) rfl (fun ls hl => ?_)
    refine lv_iconst (v := 0) hx hb dX5_takeIn_41 (by decide) ?_
    refine lv_aload hx hb dX5_takeIn_42 (lv_at hl 2 rfl) ?_
    refine zg1_19 X hK hW (zvin h1) m_138 dX5_takeIn_44 ?_
    refine lv_iload hx hb dX5_takeIn_47 (lv_at hl 0 rfl) ?_
    refine lv_isub hx hb dX5_takeIn_49 ?_
    refine z_max (x := 0) (y := (zI σ 119 x.toNatClampNeg) - ((5 * (k_max 0 ((zI σ 509 0) - (zI σ 118 x.toNatClampNeg)))) + 50)) X hml hl.1 m_582 ⟨Nat.le_of_ble_eq_true rfl, Nat.le_of_ble_eq_true rfl⟩ ⟨Nat.zero_le _, Nat.zero_le _⟩ (Nat.le_of_ble_eq_true rfl) dX5_takeIn_50 ?_
    refine lv_istore (lv' := [(7, .int (k_max 0 ((zI σ 119 x.toNatClampNeg) - ((5 * (k_max 0 ((zI σ 509 0) - (zI σ 118 x.toNatClampNeg)))) + 50)))), (6, .int ((5 * (k_max 0 ((zI σ 509 0) - (zI σ 118 x.toNatClampNeg)))) + 50)), (5, .int (k_max 0 ((zI σ 509 0) - (zI σ 118 x.toNatClampNeg)))), (4, .ref (ad 11 x.toNatClampNeg)), (0, .ref (ad 0 0)), (1, .int x), (2, .int (bI us)), (3, .int (bI dm))]) hx hb dX5_takeIn_53 hl (by decide) rfl (fun ls hl => ?_)
    refine lv_aload_n hx hb dX5_takeIn_55 rfl (lv_at hl 4 rfl) ?_
    refine lv_dup hx hb dX5_takeIn_56 rfl ?_
    refine zg5_11 X hK hW m_267 dX5_takeIn_57 ?_
    refine lv_aload hx hb dX5_takeIn_60 (lv_at hl 3 rfl) ?_
    refine zg1_19 X hK hW (zvin h1) m_138 dX5_takeIn_62 ?_
    refine lv_iload hx hb dX5_takeIn_65 (lv_at hl 0 rfl) ?_
    refine lv_isub hx hb dX5_takeIn_67 ?_
    refine lv_i2l hx hb dX5_takeIn_68 rfl ?_
    refine lv_ladd hx hb dX5_takeIn_69 ?_
    refine zp5_11 X hK hW hj hA hS m_267 dX5_takeIn_70 (fun H locs hW hS => ?_)
    refine lv_aload hx hb dX5_takeIn_73 (lv_at hl 3 rfl) ?_
    refine lv_iload_n hx hb dX5_takeIn_75 rfl (lv_at hl 6 rfl) ?_
    refine zb_eq (tgt := 84) hx hb dX5_takeIn_76 (by decide) (fun b5 => ?_) (fun b5 => ?_)
    · refine lv_bipush (v := 107) hx hb dX5_takeIn_84 (by decide) ?_
      refine zp1_5 X hK hW hj hA hS (zvin h1) rfl rfl m_107 dX5_takeIn_86 (fun H locs hW hS => ?_)
      refine lv_aload hx hb dX5_takeIn_89 (lv_at hl 3 rfl) ?_
      refine lv_iconst (v := 0) hx hb dX5_takeIn_91 (by decide) ?_
      refine zp1_18 X hK hW hj hA hS (zvin h1) m_136 dX5_takeIn_92 (fun H locs hW hS => ?_)
      refine lv_aload hx hb dX5_takeIn_95 (lv_at hl 3 rfl) ?_
      refine lv_iconst (v := 0) hx hb dX5_takeIn_97 (by decide) ?_
      refine zp1_19 X hK hW hj hA hS (zvin h1) m_138 dX5_takeIn_98 (fun H locs hW hS => ?_)
      refine lv_iload_n hx hb dX5_takeIn_101 rfl (lv_at hl 7 rfl) ?_
      refine zb_eq (tgt := 110) hx hb dX5_takeIn_102 (by decide) (fun b6 => ?_) (fun b6 => ?_)
      · refine lv_iload hx hb dX5_takeIn_110 (lv_at hl 0 rfl) ?_
        exact zm_i hx hb hr hlocks (by rw [r_X5_takeIn, if_neg (by simp [b1]), if_pos b5, if_pos b6]) (by rw [f_X5_takeIn, if_neg (by simp [b1]), if_pos b5, if_pos b6]; exact hW) hS dX5_takeIn_112
      · refine lv_aload_n hx hb dX5_takeIn_105 rfl (lv_at hl 4 rfl) ?_
        refine lv_iload_n hx hb dX5_takeIn_106 rfl (lv_at hl 5 rfl) ?_
        refine zcallMV (As := [.int x]) (rest := []) X hml hK hW (ctX5_noteFindingIfRoom l D cy ad (zpI (zpI (zpI (zpL σ 511 0 ((zL σ 511 0) + (((zI σ 119 x.toNatClampNeg) - (k_max 0 ((zI σ 119 x.toNatClampNeg) - ((5 * (k_max 0 ((zI σ 509 0) - (zI σ 118 x.toNatClampNeg)))) + 50)))).toInt64))) 105 x.toNatClampNeg 107) 118 x.toNatClampNeg 0) 119 x.toNatClampNeg 0) hj x h1 (by repeat (first | exact hc | refine zbd_pI (by decide) ?_ | refine zbd_pL ?_))) zmX5_noteFindingIfRoom (by decide) m_570 (zrecv hK (hW 0 0 rfl (by decide)) rfl) ⟨Nat.le_of_ble_eq_true rfl, Nat.le_of_ble_eq_true rfl⟩ ⟨Nat.zero_le _, Nat.zero_le _⟩ rfl hl.1 rfl (Nat.le_of_ble_eq_true rfl) dX5_takeIn_107 hS hA (fun H locs hW hsz hfr hS => ?_)
        refine lv_iload hx hb dX5_takeIn_110 (lv_at hl 0 rfl) ?_
        exact zm_i hx hb hr hlocks (by rw [r_X5_takeIn, if_neg (by simp [b1]), if_pos b5, if_neg (by simp [b6])]) (by rw [f_X5_takeIn, if_neg (by simp [b1]), if_pos b5, if_neg (by simp [b6])]; exact hW) hS dX5_takeIn_112
    · refine lv_bipush (v := 111) hx hb dX5_takeIn_79 (by decide) ?_
      refine lv_goto (tgt := 86) hx hb dX5_takeIn_81 (by decide) ?_
      refine zp1_5 X hK hW hj hA hS (zvin h1) rfl rfl m_107 dX5_takeIn_86 (fun H locs hW hS => ?_)
      refine lv_aload hx hb dX5_takeIn_89 (lv_at hl 3 rfl) ?_
      refine lv_iconst (v := 0) hx hb dX5_takeIn_91 (by decide) ?_
      refine zp1_18 X hK hW hj hA hS (zvin h1) m_136 dX5_takeIn_92 (fun H locs hW hS => ?_)
      refine lv_aload hx hb dX5_takeIn_95 (lv_at hl 3 rfl) ?_
      refine lv_iconst (v := 0) hx hb dX5_takeIn_97 (by decide) ?_
      refine zp1_19 X hK hW hj hA hS (zvin h1) m_138 dX5_takeIn_98 (fun H locs hW hS => ?_)
      refine lv_iload_n hx hb dX5_takeIn_101 rfl (lv_at hl 7 rfl) ?_
      refine zb_eq (tgt := 110) hx hb dX5_takeIn_102 (by decide) (fun b7 => ?_) (fun b7 => ?_)
      · refine lv_iload hx hb dX5_takeIn_110 (lv_at hl 0 rfl) ?_
        exact zm_i hx hb hr hlocks (by rw [r_X5_takeIn, if_neg (by simp [b1]), if_neg (by simp [b5]), if_pos b7]) (by rw [f_X5_takeIn, if_neg (by simp [b1]), if_neg (by simp [b5]), if_pos b7]; exact hW) hS dX5_takeIn_112
      · refine lv_aload_n hx hb dX5_takeIn_105 rfl (lv_at hl 4 rfl) ?_
        refine lv_iload_n hx hb dX5_takeIn_106 rfl (lv_at hl 5 rfl) ?_
        refine zcallMV (As := [.int x]) (rest := []) X hml hK hW (ctX5_noteFindingIfRoom l D cy ad (zpI (zpI (zpI (zpL σ 511 0 ((zL σ 511 0) + (((zI σ 119 x.toNatClampNeg) - (k_max 0 ((zI σ 119 x.toNatClampNeg) - ((5 * (k_max 0 ((zI σ 509 0) - (zI σ 118 x.toNatClampNeg)))) + 50)))).toInt64))) 105 x.toNatClampNeg 111) 118 x.toNatClampNeg 0) 119 x.toNatClampNeg 0) hj x h1 (by repeat (first | exact hc | refine zbd_pI (by decide) ?_ | refine zbd_pL ?_))) zmX5_noteFindingIfRoom (by decide) m_570 (zrecv hK (hW 0 0 rfl (by decide)) rfl) ⟨Nat.le_of_ble_eq_true rfl, Nat.le_of_ble_eq_true rfl⟩ ⟨Nat.zero_le _, Nat.zero_le _⟩ rfl hl.1 rfl (Nat.le_of_ble_eq_true rfl) dX5_takeIn_107 hS hA (fun H locs hW hsz hfr hS => ?_)
        refine lv_iload hx hb dX5_takeIn_110 (lv_at hl 0 rfl) ?_
        exact zm_i hx hb hr hlocks (by rw [r_X5_takeIn, if_neg (by simp [b1]), if_neg (by simp [b5]), if_neg (by simp [b7])]) (by rw [f_X5_takeIn, if_neg (by simp [b1]), if_neg (by simp [b5]), if_neg (by simp [b7])]; exact hW) hS dX5_takeIn_112
/-- the findings of a canopy that had no repair behind them: the act of this one, k findings done -/
def k_mend (σ : zS) (x : Int32) : Nat → zS
  | 0 => σ
  | k + 1 => if zI (k_mend σ x k) 300 k = x then (if zI (k_mend σ x k) 306 k = 0 then zpI (k_mend σ x k) 306 k (zI (k_mend σ x k) 512 0) else k_mend σ x k) else k_mend σ x k
theorem k_mend_I (σ : zS) (x : Int32) (f i : Nat) (hf : f ≠ 306) : ∀ k, zI (k_mend σ x k) f i = zI σ f i
  | 0 => rfl
  | k + 1 => by
    rw [k_mend]
    split
    · split
      · rw [zI_pI, if_neg (fun z => hf z.1), k_mend_I σ x f i hf k]
      · exact k_mend_I σ x f i hf k
    · exact k_mend_I σ x f i hf k
def f_X5_mend (σ : zS) (x : Int32) : zS := zpI (k_mend σ x (zn σ 508)) 114 x.toNatClampNeg (zI σ 114 x.toNatClampNeg + 1)
def r_X5_mend (σ : zS) (x : Int32) : Int32 := zI σ 114 x.toNatClampNeg + 1
theorem zmX5_mend : zmV yX5_mend RX5 cX5_mend 3 (some .int) 1 := ⟨m_560, s_20, m_2, m_561, rfl, by decide, by decide, by decide +kernel⟩
set_option maxRecDepth 100000 in
set_option maxHeartbeats 4000000 in
theorem ctX5_mend (l : Launch) (D : va_G) (cy : Nat → ClassId) (ad : Nat → Nat → Nat) (σ : zS) (hj : zinj ad zsL) (x : Int32) (h1 : vp_in x 24) (hc : zbd σ 508 12) : Met l yX5_mend (zw yX5_mend cX5_mend 3 (some .int)) (zrm 0) (va_Pc [.ref (ad 0 0), .int x] (zB D cy (zW D cy ad zsL σ))) (zqM (some (.int (r_X5_mend σ x))) (zW D cy ad zsL (f_X5_mend σ x)) (zrg ad zsL)) 0 0 (zrg ad zsL) := by
  refine zmet (by decide) rfl (Nat.le_of_ble_eq_true rfl) rfl (fun p e s m below meth c ls X hml hr hlocks hv hl => ?_)
  obtain ⟨hK, hW⟩ := hv
  obtain ⟨hx, hb, -, -⟩ := id X
  have hl : lv_has ls 3 [(0, .ref (ad 0 0)), (1, .int x)] := hl
  have hS : va_S (zrg ad zsL) s.heap s.heap [] := va_S.rf
  generalize hAe : zrg ad zsL = A at hS ⊢
  have hA : ∀ q, zrg ad zsL q → A q := fun q h => by rw [← hAe]; exact h
  refine lv_iconst (v := 0) hx hb dX5_mend_0 (by decide) ?_
  refine lv_istore_n (lv' := [(2, .int 0), (0, .ref (ad 0 0)), (1, .int x)]) hx hb dX5_mend_1 rfl hl (by decide) rfl (fun ls hl => ?_)
  have loop2 : ∀ (n : Nat) (k : Nat) (ls : Array Slot), lv_has ls 3 [(0, .ref (ad 0 0)), (1, .int x), (2, .int (nI k))] → zn σ 508 - k < n → ∀ (τ : zS) (H : Heap) (locs : List Loc), zW D cy ad zsL τ H → va_S A s.heap H locs → (k ≤ zn σ 508) → (τ = k_mend σ x k) → W p l e (zrm 0) s m ([.ref (ad 0 0), .int x] : List Value).toArray below meth c H locs 0 0 (MQ below (zqM (some (.int (r_X5_mend σ x))) (zW D cy ad zsL (f_X5_mend σ x)) A) ([.ref (ad 0 0), .int x] : List Value).toArray s 0 0 A) (F0 m 2 ls []) := by
    intro n
    induction n with
    | zero => intro k ls hl hm τ H locs hW hS hk ht; exact absurd hm (Nat.not_lt_zero _)
    | succ n ih2 =>
      intro k ls hl hm τ H locs hW hS hk ht
      have e508 : zI τ 508 0 = zI σ 508 0 := by rw [ht]; exact k_mend_I σ x 508 0 (by decide) k
      refine lv_iload_n hx hb dX5_mend_2 rfl (lv_at hl 2 rfl) ?_
      refine lv_aload_n hx hb dX5_mend_3 rfl (lv_at hl 0 rfl) ?_
      refine zg5_8 X hK hW m_262 dX5_mend_4 ?_
      refine lv_icmp_ge (tgt := 54) hx hb dX5_mend_7 (by decide) (fun b1 => ?_) (fun b1 => ?_)
      · have hke := zge_of hc (by decide) hk (by rw [← e508]; exact b1)
        have e114 : zI τ 114 x.toNatClampNeg = zI σ 114 x.toNatClampNeg := by rw [ht]; exact k_mend_I σ x 114 _ (by decide) k
        refine lv_aload_n hx hb dX5_mend_54 rfl (lv_at hl 0 rfl) ?_
        refine zg5_1 X hK hW m_246 dX5_mend_55 ?_
        refine lv_iload_n hx hb dX5_mend_58 rfl (lv_at hl 1 rfl) ?_
        refine zr2 X hK hW h1 dX5_mend_59 ?_
        refine lv_dup hx hb dX5_mend_60 rfl ?_
        refine zg1_14 X hK hW (zvin h1) m_129 dX5_mend_61 ?_
        refine lv_iconst (v := 1) hx hb dX5_mend_64 (by decide) ?_
        refine lv_iadd hx hb dX5_mend_65 ?_
        refine zp1_14 X hK hW hj hA hS (zvin h1) m_129 dX5_mend_66 (fun H locs hW hS => ?_)
        refine lv_aload_n hx hb dX5_mend_69 rfl (lv_at hl 0 rfl) ?_
        refine zg5_1 X hK hW m_246 dX5_mend_70 ?_
        refine lv_iload_n hx hb dX5_mend_73 rfl (lv_at hl 1 rfl) ?_
        refine zr2 X hK hW h1 dX5_mend_74 ?_
        refine zg1_14 X hK hW (zvin h1) m_129 dX5_mend_75 ?_
        exact zm_i hx hb hr hlocks (by rw [zI_pI, if_pos ⟨rfl, rfl⟩, e114]; rfl) (by rw [f_X5_mend, ← hke, ← ht, ← e114]; exact hW) hS dX5_mend_78
      · have hlt : k < zn σ 508 := zlt_of hc (by decide) hk (by rw [← e508]; exact b1)
        have hltN := Nat.lt_of_lt_of_le hlt hc.2
        refine lv_aload_n hx hb dX5_mend_10 rfl (lv_at hl 0 rfl) ?_
        refine zg5_3 X hK hW m_251 dX5_mend_11 ?_
        refine lv_iload_n hx hb dX5_mend_14 rfl (lv_at hl 2 rfl) ?_
        refine zrn4 X hK hW (by omega) dX5_mend_15 ?_
        refine zg3_0 X hK hW (by omega) m_212 dX5_mend_16 ?_
        refine lv_iload_n hx hb dX5_mend_19 rfl (lv_at hl 1 rfl) ?_
        refine lv_icmp_ne (tgt := 48) hx hb dX5_mend_20 (by decide) (fun b2 => ?_) (fun b2 => ?_)
        · refine lv_iinc (v := nI (k + 1)) (lv' := [(2, .int (nI (k + 1))), (0, .ref (ad 0 0)), (1, .int x)]) hx hb dX5_mend_48 hl (k := 2) rfl (nI_1 k) (by decide) rfl (fun ls hl => ?_)
          refine lv_goto (tgt := 2) hx hb dX5_mend_51 (by decide) ?_
          exact ih2 (k + 1) _ (lv_sub hl [1, 2, 0] rfl) (by omega) τ _ _ hW hS hlt (by rw [k_mend, ← ht, if_neg b2])
        · refine lv_aload_n hx hb dX5_mend_23 rfl (lv_at hl 0 rfl) ?_
          refine zg5_3 X hK hW m_251 dX5_mend_24 ?_
          refine lv_iload_n hx hb dX5_mend_27 rfl (lv_at hl 2 rfl) ?_
          refine zrn4 X hK hW (by omega) dX5_mend_28 ?_
          refine zg3_6 X hK hW (by omega) m_228 dX5_mend_29 ?_
          refine lv_if_ne (tgt := 48) hx hb dX5_mend_32 (by decide) (fun b3 => ?_) (fun b3 => ?_)
          · refine lv_iinc (v := nI (k + 1)) (lv' := [(2, .int (nI (k + 1))), (0, .ref (ad 0 0)), (1, .int x)]) hx hb dX5_mend_48 hl (k := 2) rfl (nI_1 k) (by decide) rfl (fun ls hl => ?_)
            refine lv_goto (tgt := 2) hx hb dX5_mend_51 (by decide) ?_
            exact ih2 (k + 1) _ (lv_sub hl [1, 2, 0] rfl) (by omega) τ _ _ hW hS hlt (by rw [k_mend, ← ht, if_pos b2, if_neg b3])
          · refine lv_aload_n hx hb dX5_mend_35 rfl (lv_at hl 0 rfl) ?_
            refine zg5_3 X hK hW m_251 dX5_mend_36 ?_
            refine lv_iload_n hx hb dX5_mend_39 rfl (lv_at hl 2 rfl) ?_
            refine zrn4 X hK hW (by omega) dX5_mend_40 ?_
            refine lv_aload_n hx hb dX5_mend_41 rfl (lv_at hl 0 rfl) ?_
            refine zg5_12 X hK hW m_269 dX5_mend_42 ?_
            refine zp3_6 X hK hW hj hA hS (by omega) m_228 dX5_mend_45 (fun H locs hW hS => ?_)
            refine lv_iinc (v := nI (k + 1)) (lv' := [(2, .int (nI (k + 1))), (0, .ref (ad 0 0)), (1, .int x)]) hx hb dX5_mend_48 hl (k := 2) rfl (nI_1 k) (by decide) rfl (fun ls hl => ?_)
            refine lv_goto (tgt := 2) hx hb dX5_mend_51 (by decide) ?_
            exact ih2 (k + 1) _ (lv_sub hl [1, 2, 0] rfl) (by omega) (zpI τ 306 k (zI τ 512 0)) _ _ hW hS hlt (by rw [k_mend, ← ht, if_pos b2, if_pos b3])
  exact loop2 _ 0 _ (lv_sub hl [1, 2, 0] rfl) (Nat.lt_succ_self _) σ _ _ hW hS (Nat.zero_le _) rfl
def f_X5_takeLastOff (σ : zS) (o : Nat) : zS := (zpI (zpI (zpI σ 400 o ((zI σ 400 o) - 1)) 105 ((zA (zpI σ 400 o ((zI σ 400 o) - 1)) 14 o (zI (zpI σ 400 o ((zI σ 400 o) - 1)) 400 o).toNatClampNeg).toNatClampNeg) 107) 105 ((zA (zpI (zpI σ 400 o ((zI σ 400 o) - 1)) 105 ((zA (zpI σ 400 o ((zI σ 400 o) - 1)) 14 o (zI (zpI σ 400 o ((zI σ 400 o) - 1)) 400 o).toNatClampNeg).toNatClampNeg) 107) 15 o (zI (zpI (zpI σ 400 o ((zI σ 400 o) - 1)) 105 ((zA (zpI σ 400 o ((zI σ 400 o) - 1)) 14 o (zI (zpI σ 400 o ((zI σ 400 o) - 1)) 400 o).toNatClampNeg).toNatClampNeg) 107) 400 o).toNatClampNeg).toNatClampNeg) 107)
def r_X5_takeLastOff (σ : zS) (o : Nat) : Int32 := zI (zpI (zpI (zpI σ 400 o ((zI σ 400 o) - 1)) 105 ((zA (zpI σ 400 o ((zI σ 400 o) - 1)) 14 o (zI (zpI σ 400 o ((zI σ 400 o) - 1)) 400 o).toNatClampNeg).toNatClampNeg) 107) 105 ((zA (zpI (zpI σ 400 o ((zI σ 400 o) - 1)) 105 ((zA (zpI σ 400 o ((zI σ 400 o) - 1)) 14 o (zI (zpI σ 400 o ((zI σ 400 o) - 1)) 400 o).toNatClampNeg).toNatClampNeg) 107) 15 o (zI (zpI (zpI σ 400 o ((zI σ 400 o) - 1)) 105 ((zA (zpI σ 400 o ((zI σ 400 o) - 1)) 14 o (zI (zpI σ 400 o ((zI σ 400 o) - 1)) 400 o).toNatClampNeg).toNatClampNeg) 107) 400 o).toNatClampNeg).toNatClampNeg) 107) 400 o
theorem zmX5_takeLastOff : zmV yX5_takeLastOff RX5 cX5_takeLastOff 2 (some .int) 1 := ⟨m_528, s_14, m_2, m_529, rfl, by decide, by decide, by decide +kernel⟩
set_option maxRecDepth 100000 in
set_option maxHeartbeats 4000000 in
theorem ctX5_takeLastOff (l : Launch) (D : va_G) (cy : Nat → ClassId) (ad : Nat → Nat → Nat) (σ : zS) (hj : zinj ad zsL) (o : Nat) (hi_o : o < 30) (a0 : Nat) (ha : zI σ 400 o = nI (a0 + 1)) (ha6 : a0 < 6) (hm : vp_in (zA σ 14 o a0) 24) (hr9 : vp_in (zA σ 15 o a0) 24) : Met l yX5_takeLastOff (zw yX5_takeLastOff cX5_takeLastOff 2 (some .int)) (zrm 0) (va_Pc [.ref (ad 0 0), .ref (ad 13 o)] (zB D cy (zW D cy ad zsL σ))) (zqM (some (.int (r_X5_takeLastOff σ o))) (zW D cy ad zsL (f_X5_takeLastOff σ o)) (zrg ad zsL)) 0 0 (zrg ad zsL) := by
  refine zmet (by decide) rfl (Nat.le_of_ble_eq_true rfl) rfl (fun p e s m below meth c ls X hml hr hlocks hv hl => ?_)
  obtain ⟨hK, hW⟩ := hv
  obtain ⟨hx, hb, -, -⟩ := id X
  have hl : lv_has ls 2 [(0, .ref (ad 0 0)), (1, .ref (ad 13 o))] := hl
  have hS : va_S (zrg ad zsL) s.heap s.heap [] := va_S.rf
  generalize hAe : zrg ad zsL = A at hS ⊢
  have hA : ∀ q, zrg ad zsL q → A q := fun q h => by rw [← hAe]; exact h
  refine lv_aload_n hx hb dX5_takeLastOff_0 rfl (lv_at hl 1 rfl) ?_
  refine lv_dup hx hb dX5_takeLastOff_1 rfl ?_
  refine zg4_0 X hK hW hi_o m_187 dX5_takeLastOff_2 ?_
  refine lv_iconst (v := 1) hx hb dX5_takeLastOff_5 (by decide) ?_
  refine lv_isub hx hb dX5_takeLastOff_6 ?_
  refine zp4_0 X hK hW hj hA hS hi_o m_187 dX5_takeLastOff_7 (fun H locs hW hS => ?_)
  have e1 : zI (zpI σ 400 o (zI σ 400 o - 1)) 400 o = nI a0 := by rw [zI_pI, if_pos ⟨rfl, rfl⟩, ha]; exact nI_pred a0
  have hi0 : vp_in (zI (zpI σ 400 o (zI σ 400 o - 1)) 400 o) 6 := by rw [e1]; exact vp_in_nI ha6 (by decide)
  have ec : (zI (zpI σ 400 o (zI σ 400 o - 1)) 400 o).toNatClampNeg = a0 := by rw [e1]; exact nI_clamp (by omega)
  refine lv_aload_n hx hb dX5_takeLastOff_10 rfl (lv_at hl 0 rfl) ?_
  refine zg5_1 X hK hW m_246 dX5_takeLastOff_11 ?_
  refine lv_aload_n hx hb dX5_takeLastOff_14 rfl (lv_at hl 1 rfl) ?_
  refine zg4_2 X hK hW hi_o m_193 dX5_takeLastOff_15 ?_
  refine lv_aload_n hx hb dX5_takeLastOff_18 rfl (lv_at hl 1 rfl) ?_
  refine zg4_0 X hK hW hi_o m_187 dX5_takeLastOff_19 ?_
  refine za14 X hK hW hi_o hi0 dX5_takeLastOff_22 ?_
  have hi1 : vp_in (zA (zpI σ 400 o (zI σ 400 o - 1)) 14 o (zI (zpI σ 400 o (zI σ 400 o - 1)) 400 o).toNatClampNeg) 24 := by rw [ec]; exact hm
  refine zr2 X hK hW hi1 dX5_takeLastOff_23 ?_
  have e2 : ∀ i v, zI (zpI (zpI σ 400 o (zI σ 400 o - 1)) 105 i v) 400 o = nI a0 := fun i v => by rw [zI_pI, if_neg (fun z => absurd z.1 (by decide)), e1]
  refine lv_bipush (v := 107) hx hb dX5_takeLastOff_24 (by decide) ?_
  refine zp1_5 X hK hW hj hA hS (zvin hi1) rfl rfl m_107 dX5_takeLastOff_26 (fun H locs hW hS => ?_)
  refine lv_aload_n hx hb dX5_takeLastOff_29 rfl (lv_at hl 0 rfl) ?_
  refine zg5_1 X hK hW m_246 dX5_takeLastOff_30 ?_
  refine lv_aload_n hx hb dX5_takeLastOff_33 rfl (lv_at hl 1 rfl) ?_
  refine zg4_3 X hK hW hi_o m_196 dX5_takeLastOff_34 ?_
  refine lv_aload_n hx hb dX5_takeLastOff_37 rfl (lv_at hl 1 rfl) ?_
  refine zg4_0 X hK hW hi_o m_187 dX5_takeLastOff_38 ?_
  refine za15 X hK hW hi_o (by rw [zI_pI, if_neg (fun z => absurd z.1 (by decide))]; exact hi0) dX5_takeLastOff_41 ?_
  refine zr2 X hK hW (by rw [e2, nI_clamp (by omega)]; exact hr9) dX5_takeLastOff_42 ?_
  refine lv_bipush (v := 107) hx hb dX5_takeLastOff_43 (by decide) ?_
  refine zp1_5 X hK hW hj hA hS (zvin (by rw [e2, nI_clamp (by omega)]; exact hr9)) rfl rfl m_107 dX5_takeLastOff_45 (fun H locs hW hS => ?_)
  refine lv_aload_n hx hb dX5_takeLastOff_48 rfl (lv_at hl 1 rfl) ?_
  refine zg4_0 X hK hW hi_o m_187 dX5_takeLastOff_49 ?_
  exact zm_i hx hb hr hlocks (by rw [r_X5_takeLastOff]) (by rw [f_X5_takeLastOff]; exact hW) hS dX5_takeLastOff_52
/-- the jump of the first k jumpers of a load -/
def k_jmp (σ : zS) (o : Nat) (rs : Int32) : Nat → zS
  | 0 => σ
  | k + 1 => if (rs >>> (nI k &&& 31)) &&& 1 = 1 then f_X1_land (f_X1_land (k_jmp σ o rs k) (zA (k_jmp σ o rs k) 14 o k).toNatClampNeg) (zA (f_X1_land (k_jmp σ o rs k) (zA (k_jmp σ o rs k) 14 o k).toNatClampNeg) 15 o k).toNatClampNeg
    else zpI (f_X1_land (k_jmp σ o rs k) (zA (k_jmp σ o rs k) 14 o k).toNatClampNeg) 105 (zA (f_X1_land (k_jmp σ o rs k) (zA (k_jmp σ o rs k) 14 o k).toNatClampNeg) 15 o k).toNatClampNeg 107
theorem k_jmp_I (σ : zS) (o : Nat) (rs : Int32) (f i : Nat) (hf : f ≠ 105 ∧ f ≠ 113) : ∀ k, zI (k_jmp σ o rs k) f i = zI σ f i
  | 0 => rfl
  | k + 1 => by
    rw [k_jmp]
    unfold f_X1_land
    split <;> simp only [zI_pI, hf.1, hf.2, false_and, if_false] <;> exact k_jmp_I σ o rs f i hf k
theorem k_jmp_A (σ : zS) (o : Nat) (rs : Int32) (a i j : Nat) : ∀ k, zA (k_jmp σ o rs k) a i j = zA σ a i j
  | 0 => rfl
  | k + 1 => by
    rw [k_jmp]
    unfold f_X1_land
    split <;> simp only [zA_pI] <;> exact k_jmp_A σ o rs a i j k
def f_X5_letJump (σ : zS) (o : Nat) (rs : Int32) : zS := zpI (k_jmp σ o rs (zI σ 400 o).toNatClampNeg) 401 o 1
def r_X5_letJump (σ : zS) (o : Nat) : Int32 := zI σ 400 o
theorem zmX5_letJump : zmV yX5_letJump RX5 cX5_letJump 5 (some .int) 2 := ⟨m_532, s_15, m_2, m_533, rfl, by decide, by decide, by decide +kernel⟩
set_option maxRecDepth 100000 in
set_option maxHeartbeats 4000000 in
theorem ctX5_letJump (l : Launch) (D : va_G) (cy : Nat → ClassId) (ad : Nat → Nat → Nat) (σ : zS) (hj : zinj ad zsL) (o : Nat) (hi_o : o < 30) (rs : Int32) (a0 : Nat) (ha : zI σ 400 o = nI a0) (ha6 : a0 ≤ 6) (hin : ∀ i, i < a0 → vp_in (zA σ 14 o i) 24 ∧ vp_in (zA σ 15 o i) 24) : Met l yX5_letJump (zw yX5_letJump cX5_letJump 5 (some .int)) (zrm 1) (va_Pc [.ref (ad 0 0), .ref (ad 13 o), .int rs] (zB D cy (zW D cy ad zsL σ))) (zqM (some (.int (r_X5_letJump σ o))) (zW D cy ad zsL (f_X5_letJump σ o rs)) (zrg ad zsL)) 0 0 (zrg ad zsL) := by
  refine zmet (by decide) rfl (Nat.le_of_ble_eq_true rfl) rfl (fun p e s m below meth c ls X hml hr hlocks hv hl => ?_)
  obtain ⟨hK, hW⟩ := hv
  obtain ⟨hx, hb, -, -⟩ := id X
  have hl : lv_has ls 5 [(0, .ref (ad 0 0)), (1, .ref (ad 13 o)), (2, .int rs)] := hl
  have hS : va_S (zrg ad zsL) s.heap s.heap [] := va_S.rf
  generalize hAe : zrg ad zsL = A at hS ⊢
  have hA : ∀ q, zrg ad zsL q → A q := fun q h => by rw [← hAe]; exact h
  refine lv_iconst (v := 0) hx hb dX5_letJump_0 (by decide) ?_
  refine lv_istore_n (lv' := [(3, .int 0), (0, .ref (ad 0 0)), (1, .ref (ad 13 o)), (2, .int rs)]) hx hb dX5_letJump_1 rfl hl (by decide) rfl (fun ls hl => ?_)
  have loop2 : ∀ (n : Nat) (k : Nat) (ls : Array Slot), lv_has ls 5 [(0, .ref (ad 0 0)), (1, .ref (ad 13 o)), (2, .int rs), (3, .int (nI k))] → a0 - k < n → ∀ (τ : zS) (H : Heap) (locs : List Loc), zW D cy ad zsL τ H → va_S A s.heap H locs → (k ≤ a0) → (τ = k_jmp σ o rs k) → W p l e (zrm 1) s m ([.ref (ad 0 0), .ref (ad 13 o), .int rs] : List Value).toArray below meth c H locs 0 0 (MQ below (zqM (some (.int (r_X5_letJump σ o))) (zW D cy ad zsL (f_X5_letJump σ o rs)) A) ([.ref (ad 0 0), .ref (ad 13 o), .int rs] : List Value).toArray s 0 0 A) (F0 m 2 ls []) := by
    intro n
    induction n with
    | zero => intro k ls hl hm τ H locs hW hS hk ht; exact absurd hm (Nat.not_lt_zero _)
    | succ n ih2 =>
      intro k ls hl hm τ H locs hW hS hk ht
      have e400 : zI τ 400 o = nI a0 := by rw [ht, k_jmp_I σ o rs 400 o (by decide) k]; exact ha
      have eA : ∀ a i j, zA τ a i j = zA σ a i j := by intro a i j; rw [ht]; exact k_jmp_A σ o rs a i j k
      refine lv_iload_n hx hb dX5_letJump_2 rfl (lv_at hl 3 rfl) ?_
      refine lv_aload_n hx hb dX5_letJump_3 rfl (lv_at hl 1 rfl) ?_
      refine zg4_0 X hK hW hi_o m_187 dX5_letJump_4 ?_
      refine lv_icmp_ge (tgt := 73) hx hb dX5_letJump_7 (by decide) (fun b1 => ?_) (fun b1 => ?_)
      · refine lv_aload_n hx hb dX5_letJump_73 rfl (lv_at hl 1 rfl) ?_
        refine lv_iconst (v := 1) hx hb dX5_letJump_74 (by decide) ?_
        refine zp4_1 X hK hW hj hA hS hi_o rfl rfl m_190 dX5_letJump_75 (fun H locs hW hS => ?_)
        refine lv_aload_n hx hb dX5_letJump_78 rfl (lv_at hl 1 rfl) ?_
        refine zg4_0 X hK hW hi_o m_187 dX5_letJump_79 ?_
        exact zm_i hx hb hr hlocks (by rw [zI_pI, if_neg (fun z => absurd z.1 (by decide)), e400, r_X5_letJump, ha]) (by rw [f_X5_letJump, ha, nI_clamp (by omega), ← zge_c (by omega) hk (by rw [← e400]; exact b1), ← ht]; exact hW) hS dX5_letJump_82
      · have hlt : k < a0 := zlt_c (by omega) hk (by rw [← e400]; exact b1)
        refine lv_iload_n hx hb dX5_letJump_10 rfl (lv_at hl 3 rfl) ?_
        refine lv_bipush (v := 6) hx hb dX5_letJump_11 (by decide) ?_
        refine lv_icmp_ge (tgt := 73) hx hb dX5_letJump_13 (by decide) (fun h => absurd h (show ¬ (6 : Int32) ≤ nI k from fun z => absurd (znle (a := 6) (by decide) (by omega) z) (by omega))) (fun b2 => ?_)
        refine lv_aload_n hx hb dX5_letJump_16 rfl (lv_at hl 0 rfl) ?_
        refine zg5_1 X hK hW m_246 dX5_letJump_17 ?_
        refine lv_aload_n hx hb dX5_letJump_20 rfl (lv_at hl 1 rfl) ?_
        refine zg4_2 X hK hW hi_o m_193 dX5_letJump_21 ?_
        refine lv_iload_n hx hb dX5_letJump_24 rfl (lv_at hl 3 rfl) ?_
        refine zan14 X hK hW hi_o (by omega) dX5_letJump_25 ?_
        refine zr2 X hK hW (by rw [eA]; exact (hin k hlt).1) dX5_letJump_26 ?_
        refine zcallMV (As := []) (rest := []) X hml hK hW (ctX1_land l D cy ad τ hj ((zA τ 14 o k).toNatClampNeg) (zvin (by rw [eA]; exact (hin k hlt).1))) zmX1_land (by decide) m_534 (zrecv hK (hW 11 ((zA τ 14 o k).toNatClampNeg) rfl (zvin (by rw [eA]; exact (hin k hlt).1))) rfl) ⟨Nat.le_of_ble_eq_true rfl, Nat.le_of_ble_eq_true rfl⟩ ⟨Nat.zero_le _, Nat.zero_le _⟩ rfl hl.1 rfl (Nat.le_of_ble_eq_true rfl) dX5_letJump_27 hS hA (fun H locs hW hsz hfr hS => ?_)
        refine lv_aload_n hx hb dX5_letJump_30 rfl (lv_at hl 0 rfl) ?_
        refine zg5_1 X hK hW m_246 dX5_letJump_31 ?_
        refine lv_aload_n hx hb dX5_letJump_34 rfl (lv_at hl 1 rfl) ?_
        refine zg4_3 X hK hW hi_o m_196 dX5_letJump_35 ?_
        refine lv_iload_n hx hb dX5_letJump_38 rfl (lv_at hl 3 rfl) ?_
        refine zan15 X hK hW hi_o (by omega) dX5_letJump_39 ?_
        refine zr2 X hK hW (by rw [show ∀ a i j (τ2 : zS), zA (f_X1_land τ2 a) 15 i j = zA τ2 15 i j from fun _ _ _ _ => rfl, eA]; exact (hin k hlt).2) dX5_letJump_40 ?_
        refine lv_astore (lv' := [(4, .ref (ad 11 ((zA (f_X1_land τ ((zA τ 14 o k).toNatClampNeg)) 15 o k).toNatClampNeg))), (0, .ref (ad 0 0)), (1, .ref (ad 13 o)), (2, .int rs), (3, .int (nI k))]) hx hb dX5_letJump_41 hl (by decide) rfl (fun ls hl => ?_)
        refine lv_iload_n hx hb dX5_letJump_43 rfl (lv_at hl 3 rfl) ?_
        refine lv_iload_n hx hb dX5_letJump_44 rfl (lv_at hl 4 rfl) ?_
        refine lv_ishr hx hb dX5_letJump_45 ?_
        refine lv_iconst (v := 1) hx hb dX5_letJump_46 (by decide) ?_
        refine lv_iand hx hb dX5_letJump_47 ?_
        refine lv_iconst (v := 1) hx hb dX5_letJump_48 (by decide) ?_
        refine lv_icmp_ne (tgt := 60) hx hb dX5_letJump_49 (by decide) (fun b3 => ?_) (fun b3 => ?_)
        · refine lv_aload hx hb dX5_letJump_60 (lv_at hl 0 rfl) ?_
          refine lv_bipush (v := 107) hx hb dX5_letJump_62 (by decide) ?_
          refine zp1_5 X hK hW hj hA hS (zvin (by rw [show ∀ a i j (τ2 : zS), zA (f_X1_land τ2 a) 15 i j = zA τ2 15 i j from fun _ _ _ _ => rfl, eA]; exact (hin k hlt).2)) rfl rfl m_107 dX5_letJump_64 (fun H locs hW hS => ?_)
          refine lv_iinc (v := nI (k + 1)) (lv' := [(3, .int (nI (k + 1))), (4, .ref (ad 11 ((zA (f_X1_land τ ((zA τ 14 o k).toNatClampNeg)) 15 o k).toNatClampNeg))), (0, .ref (ad 0 0)), (1, .ref (ad 13 o)), (2, .int rs)]) hx hb dX5_letJump_67 hl (k := 4) rfl (nI_1 k) (by decide) rfl (fun ls hl => ?_)
          refine lv_goto (tgt := 2) hx hb dX5_letJump_70 (by decide) ?_
          exact ih2 (k + 1) _ (lv_sub hl [2, 3, 4, 0] rfl) (by omega) (zpI (f_X1_land τ ((zA τ 14 o k).toNatClampNeg)) 105 ((zA (f_X1_land τ ((zA τ 14 o k).toNatClampNeg)) 15 o k).toNatClampNeg) 107) _ _ hW hS hlt (by rw [k_jmp, ← ht, if_neg b3])
        · refine lv_aload hx hb dX5_letJump_52 (lv_at hl 0 rfl) ?_
          refine zcallMV (As := []) (rest := []) X hml hK hW (ctX1_land l D cy ad (f_X1_land τ ((zA τ 14 o k).toNatClampNeg)) hj ((zA (f_X1_land τ ((zA τ 14 o k).toNatClampNeg)) 15 o k).toNatClampNeg) (zvin (by rw [show ∀ a i j (τ2 : zS), zA (f_X1_land τ2 a) 15 i j = zA τ2 15 i j from fun _ _ _ _ => rfl, eA]; exact (hin k hlt).2))) zmX1_land (by decide) m_534 (zrecv hK (hW 11 ((zA (f_X1_land τ ((zA τ 14 o k).toNatClampNeg)) 15 o k).toNatClampNeg) rfl (zvin (by rw [show ∀ a i j (τ2 : zS), zA (f_X1_land τ2 a) 15 i j = zA τ2 15 i j from fun _ _ _ _ => rfl, eA]; exact (hin k hlt).2))) rfl) ⟨Nat.le_of_ble_eq_true rfl, Nat.le_of_ble_eq_true rfl⟩ ⟨Nat.zero_le _, Nat.zero_le _⟩ rfl hl.1 rfl (Nat.le_of_ble_eq_true rfl) dX5_letJump_54 hS hA (fun H locs hW hsz hfr hS => ?_)
          refine lv_goto (tgt := 67) hx hb dX5_letJump_57 (by decide) ?_
          refine lv_iinc (v := nI (k + 1)) (lv' := [(3, .int (nI (k + 1))), (4, .ref (ad 11 ((zA (f_X1_land τ ((zA τ 14 o k).toNatClampNeg)) 15 o k).toNatClampNeg))), (0, .ref (ad 0 0)), (1, .ref (ad 13 o)), (2, .int rs)]) hx hb dX5_letJump_67 hl (k := 4) rfl (nI_1 k) (by decide) rfl (fun ls hl => ?_)
          refine lv_goto (tgt := 2) hx hb dX5_letJump_70 (by decide) ?_
          exact ih2 (k + 1) _ (lv_sub hl [2, 3, 4, 0] rfl) (by omega) (f_X1_land (f_X1_land τ ((zA τ 14 o k).toNatClampNeg)) ((zA (f_X1_land τ ((zA τ 14 o k).toNatClampNeg)) 15 o k).toNatClampNeg)) _ _ hW hS hlt (by rw [k_jmp, ← ht, if_pos b3])
  exact loop2 _ 0 _ (lv_sub hl [1, 2, 3, 0] rfl) (Nat.lt_succ_self _) σ _ _ hW hS (Nat.zero_le _) rfl
