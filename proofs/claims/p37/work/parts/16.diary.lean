def k_full (δ : zS) : Bool := !decide (zI δ 200 0 < 512)
theorem zfull_no {δ : zS} (hc : zbd δ 200 512) (h : k_full δ = false) : ∃ q, q < 512 ∧ zI δ 200 0 = nI q := by
  simp only [k_full, Bool.not_eq_false', decide_eq_true_eq] at h
  refine ⟨zn δ 200, ?_, hc.1⟩
  rw [hc.1] at h
  have := hc.2
  exact (nI_ltI (b := 512) (by omega) (by decide)).mp h
theorem zrow {q j : Nat} : nI q * 5 + nI j = nI (q * 5 + j) := zmul5
theorem zmX2_isFull : zmV yX2_isFull RX2 cX2_isFull 1 (some .boolean) 0 := ⟨m_786, m_787, m_8, m_788, rfl, by decide, by decide, by decide +kernel⟩
set_option maxRecDepth 100000 in
set_option maxHeartbeats 4000000 in
theorem ctX2_isFull (l : Launch) (D : va_G) (cy : Nat → ClassId) (ad : Nat → Nat → Nat) (δ : zS) : Met l yX2_isFull (zw yX2_isFull cX2_isFull 1 (some .boolean)) (zrm 0) (va_Pc [.ref (ad 20 0)] (zB D cy (zW D cy ad zsD δ))) (zqR (.int (bI (k_full δ)))) 0 0 (fun _ => False) := by
  refine zmet (by decide) rfl (Nat.le_of_ble_eq_true rfl) rfl (fun p e s m below meth c ls X hml hr hlocks hv hl => ?_)
  obtain ⟨hK, hW⟩ := hv
  obtain ⟨hx, hb, -, -⟩ := id X
  have hl : lv_has ls 1 [(0, .ref (ad 20 0))] := hl
  refine lv_aload_n hx hb dX2_isFull_0 rfl (lv_at hl 0 rfl) ?_
  refine zg2_0 X hK hW m_303 dX2_isFull_1 ?_
  refine lv_sipush (v := 512) hx hb dX2_isFull_4 (by decide) ?_
  refine lv_icmp_lt (tgt := 14) hx hb dX2_isFull_7 (by decide) (fun b1 => ?_) (fun b1 => ?_)
  · refine lv_iconst (v := 0) hx hb dX2_isFull_14 (by decide) ?_
    exact ze_z hx hb hr hlocks (by simp [bI_t, bI_f, k_full, b1, Int32.not_le.mpr b1]) dX2_isFull_15
  · refine lv_iconst (v := 1) hx hb dX2_isFull_10 (by decide) ?_
    refine lv_goto (tgt := 15) hx hb dX2_isFull_11 (by decide) ?_
    exact ze_z hx hb hr hlocks (by simp [bI_t, bI_f, k_full, b1, Int32.not_lt.mp b1]) dX2_isFull_15
def f_X2_write (δ : zS) (w0 : Int32) (w1 : Int32) (w2 : Int32) (w3 : Int32) (w4 : Int32) : zS := if k_full δ = false then (zpI (zpA (zpA (zpA (zpA (zpA δ 21 0 (((zI δ 200 0) * 5).toNatClampNeg) w0) 21 0 ((((zI δ 200 0) * 5) + 1).toNatClampNeg) w1) 21 0 ((((zI δ 200 0) * 5) + 2).toNatClampNeg) w2) 21 0 ((((zI δ 200 0) * 5) + 3).toNatClampNeg) w3) 21 0 ((((zI δ 200 0) * 5) + 4).toNatClampNeg) w4) 200 0 ((zI (zpA (zpA (zpA (zpA (zpA δ 21 0 (((zI δ 200 0) * 5).toNatClampNeg) w0) 21 0 ((((zI δ 200 0) * 5) + 1).toNatClampNeg) w1) 21 0 ((((zI δ 200 0) * 5) + 2).toNatClampNeg) w2) 21 0 ((((zI δ 200 0) * 5) + 3).toNatClampNeg) w3) 21 0 ((((zI δ 200 0) * 5) + 4).toNatClampNeg) w4) 200 0) + 1)) else δ
theorem zmX2_write : zmV yX2_write RX2 cX2_write 7 none 5 := ⟨m_790, m_791, m_8, m_792, rfl, by decide, by decide, by decide +kernel⟩
set_option maxRecDepth 100000 in
set_option maxHeartbeats 4000000 in
theorem ctX2_write (l : Launch) (D : va_G) (cy : Nat → ClassId) (ad : Nat → Nat → Nat) (δ : zS) (hj : zinj ad zsD) (w0 : Int32) (w1 : Int32) (w2 : Int32) (w3 : Int32) (w4 : Int32) (hc : zbd δ 200 512) : Met l yX2_write (zw yX2_write cX2_write 7 none) (zrm 1) (va_Pc [.ref (ad 20 0), .int w0, .int w1, .int w2, .int w3, .int w4] (zB D cy (zW D cy ad zsD δ))) (zqM none (zW D cy ad zsD (f_X2_write δ w0 w1 w2 w3 w4)) (zrg ad zsD)) 0 0 (zrg ad zsD) := by
  refine zmet (by decide) rfl (Nat.le_of_ble_eq_true rfl) rfl (fun p e s m below meth c ls X hml hr hlocks hv hl => ?_)
  obtain ⟨hK, hW⟩ := hv
  obtain ⟨hx, hb, -, -⟩ := id X
  have hl : lv_has ls 7 [(0, .ref (ad 20 0)), (1, .int w0), (2, .int w1), (3, .int w2), (4, .int w3), (5, .int w4)] := hl
  have hS : va_S (zrg ad zsD) s.heap s.heap [] := va_S.rf
  generalize hAe : zrg ad zsD = A at hS ⊢
  have hA : ∀ q, zrg ad zsD q → A q := fun q h => by rw [← hAe]; exact h
  refine lv_aload_n hx hb dX2_write_0 rfl (lv_at hl 0 rfl) ?_
  refine zcallRV (As := []) (rest := []) X hml hK hW (ctX2_isFull l D cy ad δ) zmX2_isFull (by decide) m_793 (zrecv hK (hW 20 0 rfl (by decide)) rfl) ⟨Nat.le_of_ble_eq_true rfl, Nat.le_of_ble_eq_true rfl⟩ ⟨Nat.zero_le _, Nat.zero_le _⟩ rfl hl.1 rfl (Nat.le_of_ble_eq_true rfl) dX2_write_1 ?_
  refine zb_eq (tgt := 8) hx hb dX2_write_4 (by decide) (fun b1 => ?_) (fun b1 => ?_)
  · obtain ⟨q, hq, hqe⟩ := zfull_no hc b1
    have i0 : vp_in ((zI δ 200 0) * 5) 2560 := by rw [hqe, show (5 : Int32) = nI 5 from rfl, pk_mul]; exact vp_in_nI (by omega) (by decide)
    have i1 : vp_in (((zI δ 200 0) * 5) + 1) 2560 := by rw [hqe, show (1 : Int32) = nI 1 from rfl, zrow]; exact vp_in_nI (by omega) (by decide)
    have i2 : vp_in (((zI δ 200 0) * 5) + 2) 2560 := by rw [hqe, show (2 : Int32) = nI 2 from rfl, zrow]; exact vp_in_nI (by omega) (by decide)
    have i3 : vp_in (((zI δ 200 0) * 5) + 3) 2560 := by rw [hqe, show (3 : Int32) = nI 3 from rfl, zrow]; exact vp_in_nI (by omega) (by decide)
    have i4 : vp_in (((zI δ 200 0) * 5) + 4) 2560 := by rw [hqe, show (4 : Int32) = nI 4 from rfl, zrow]; exact vp_in_nI (by omega) (by decide)
    refine lv_aload_n hx hb dX2_write_8 rfl (lv_at hl 0 rfl) ?_
    refine zg2_0 X hK hW m_303 dX2_write_9 ?_
    refine lv_iconst (v := 5) hx hb dX2_write_12 (by decide) ?_
    refine lv_imul hx hb dX2_write_13 ?_
    refine lv_istore (lv' := [(6, .int ((zI δ 200 0) * 5)), (0, .ref (ad 20 0)), (1, .int w0), (2, .int w1), (3, .int w2), (4, .int w3), (5, .int w4)]) hx hb dX2_write_14 hl (by decide) rfl (fun ls hl => ?_)
    refine lv_aload_n hx hb dX2_write_16 rfl (lv_at hl 1 rfl) ?_
    refine zg2_1 X hK hW m_305 dX2_write_17 ?_
    refine lv_iload hx hb dX2_write_20 (lv_at hl 0 rfl) ?_
    refine lv_iload_n hx hb dX2_write_22 rfl (lv_at hl 2 rfl) ?_
    refine zs21 X hK hW hj hA hS i0 dX2_write_23 (fun H locs hW hS => ?_)
    refine lv_aload_n hx hb dX2_write_24 rfl (lv_at hl 1 rfl) ?_
    refine zg2_1 X hK hW m_305 dX2_write_25 ?_
    refine lv_iload hx hb dX2_write_28 (lv_at hl 0 rfl) ?_
    refine lv_iconst (v := 1) hx hb dX2_write_30 (by decide) ?_
    refine lv_iadd hx hb dX2_write_31 ?_
    refine lv_iload_n hx hb dX2_write_32 rfl (lv_at hl 3 rfl) ?_
    refine zs21 X hK hW hj hA hS i1 dX2_write_33 (fun H locs hW hS => ?_)
    refine lv_aload_n hx hb dX2_write_34 rfl (lv_at hl 1 rfl) ?_
    refine zg2_1 X hK hW m_305 dX2_write_35 ?_
    refine lv_iload hx hb dX2_write_38 (lv_at hl 0 rfl) ?_
    refine lv_iconst (v := 2) hx hb dX2_write_40 (by decide) ?_
    refine lv_iadd hx hb dX2_write_41 ?_
    refine lv_iload_n hx hb dX2_write_42 rfl (lv_at hl 4 rfl) ?_
    refine zs21 X hK hW hj hA hS i2 dX2_write_43 (fun H locs hW hS => ?_)
    refine lv_aload_n hx hb dX2_write_44 rfl (lv_at hl 1 rfl) ?_
    refine zg2_1 X hK hW m_305 dX2_write_45 ?_
    refine lv_iload hx hb dX2_write_48 (lv_at hl 0 rfl) ?_
    refine lv_iconst (v := 3) hx hb dX2_write_50 (by decide) ?_
    refine lv_iadd hx hb dX2_write_51 ?_
    refine lv_iload hx hb dX2_write_52 (lv_at hl 5 rfl) ?_
    refine zs21 X hK hW hj hA hS i3 dX2_write_54 (fun H locs hW hS => ?_)
    refine lv_aload_n hx hb dX2_write_55 rfl (lv_at hl 1 rfl) ?_
    refine zg2_1 X hK hW m_305 dX2_write_56 ?_
    refine lv_iload hx hb dX2_write_59 (lv_at hl 0 rfl) ?_
    refine lv_iconst (v := 4) hx hb dX2_write_61 (by decide) ?_
    refine lv_iadd hx hb dX2_write_62 ?_
    refine lv_iload hx hb dX2_write_63 (lv_at hl 6 rfl) ?_
    refine zs21 X hK hW hj hA hS i4 dX2_write_65 (fun H locs hW hS => ?_)
    refine lv_aload_n hx hb dX2_write_66 rfl (lv_at hl 1 rfl) ?_
    refine lv_dup hx hb dX2_write_67 rfl ?_
    refine zg2_0 X hK hW m_303 dX2_write_68 ?_
    refine lv_iconst (v := 1) hx hb dX2_write_71 (by decide) ?_
    refine lv_iadd hx hb dX2_write_72 ?_
    refine zp2_0 X hK hW hj hA hS m_303 dX2_write_73 (fun H locs hW hS => ?_)
    exact zm_v hx hb hr hlocks (by rw [f_X2_write, if_pos b1]; exact hW) hS dX2_write_76
  · exact zm_v hx hb hr hlocks (by rw [f_X2_write, if_neg (by simp [b1])]; exact hW) hS dX2_write_7
/-- a row of the diary -/
def k_row (δ : zS) (q j : Nat) : Int32 := zA δ 21 0 (q * 5 + j)
/-- the act of a row, done in a loft -/
def k_rref (δ σ : zS) (q : Nat) : Nat := k_ref σ (k_row δ q 0) (k_row δ q 1) (k_row δ q 2) (k_row δ q 3) (k_row δ q 4)
def k_rpf (δ σ : zS) (q : Nat) : zS := k_pf σ (k_row δ q 0) (k_row δ q 1) (k_row δ q 2) (k_row δ q 3) (k_row δ q 4)
def f_X2_repeat (σ δ : zS) (q : Nat) : zS := if k_rref δ σ q = 0 then k_rpf δ σ q else σ
def r_X2_repeat (σ δ : zS) (q : Nat) : Bool := decide (k_rref δ σ q = 0)
theorem zmX2_repeat : zmV yX2_repeat RX2 cX2_repeat 9 (some .boolean) 2 := ⟨m_334, m_335, m_8, m_336, rfl, by decide, by decide, by decide +kernel⟩
set_option maxRecDepth 100000 in
set_option maxHeartbeats 4000000 in
theorem ctX2_repeat (l : Launch) (D : va_G) (cy : Nat → ClassId) (rf : Nat → Nat) (ad : Nat → Nat → Nat) (σ : zS) (ad2 : Nat → Nat → Nat) (δ : zS) (hj : zinj ad zsL) (q : Nat) (hi_q : q < 512) (hq : q < zn δ 200) (hc : zbd δ 200 512) (hV : zV σ) (n : Nat) (hn : n < 20) (hk0 : k_row δ q 0 = nI n) : Met l yX2_repeat (zw yX2_repeat cX2_repeat 9 (some .boolean)) (zrm 7) (va_Pc [.ref (ad2 20 0), .int (nI q), .ref (ad 0 0)] (zBE D cy rf (fun H => zW D cy ad zsL σ H ∧ zW D cy ad2 zsD δ H))) (zqM (some (.int (bI (r_X2_repeat σ δ q)))) (zW D cy ad zsL (f_X2_repeat σ δ q)) (zrg ad zsL)) 0 0 (zrg ad zsL) := by
  refine zmet (by decide) rfl (Nat.le_of_ble_eq_true rfl) rfl (fun p e s m below meth c ls X hml hr hlocks hv hl => ?_)
  obtain ⟨hK, hE, hW, hW2⟩ := hv
  obtain ⟨hx, hb, -, -⟩ := id X
  have hl : lv_has ls 9 [(0, .ref (ad2 20 0)), (1, .int (nI q)), (2, .ref (ad 0 0))] := hl
  have hS : va_S (zrg ad zsL) s.heap s.heap [] := va_S.rf
  generalize hAe : zrg ad zsL = A at hS ⊢
  have hA : ∀ q, zrg ad zsL q → A q := fun q h => by rw [← hAe]; exact h
  refine lv_iload_n hx hb dX2_repeat_0 rfl (lv_at hl 1 rfl) ?_
  refine lv_if_lt (tgt := 12) hx hb dX2_repeat_1 (by decide) (fun h => absurd h (show ¬ nI q < 0 from nI_pos (by omega))) (fun b1 => ?_)
  refine lv_iload_n hx hb dX2_repeat_4 rfl (lv_at hl 1 rfl) ?_
  refine lv_aload_n hx hb dX2_repeat_5 rfl (lv_at hl 0 rfl) ?_
  refine zg2_0 X hK hW2 m_303 dX2_repeat_6 ?_
  refine lv_icmp_lt (tgt := 14) hx hb dX2_repeat_9 (by decide) (fun b2 => ?_) (fun h => absurd (show nI q < zI δ 200 0 by rw [hc.1]; exact (nI_ltI (by omega) (by have := hc.2; omega)).mpr hq) h)
  refine lv_iload_n hx hb dX2_repeat_14 rfl (lv_at hl 1 rfl) ?_
  refine lv_iconst (v := 5) hx hb dX2_repeat_15 (by decide) ?_
  refine lv_imul hx hb dX2_repeat_16 ?_
  refine lv_istore_n (lv' := [(3, .int ((nI q) * 5)), (0, .ref (ad2 20 0)), (1, .int (nI q)), (2, .ref (ad 0 0))]) hx hb dX2_repeat_17 rfl hl (by decide) rfl (fun ls hl => ?_)
  refine lv_aload_n hx hb dX2_repeat_18 rfl (lv_at hl 1 rfl) ?_
  refine zg2_1 X hK hW2 m_305 dX2_repeat_19 ?_
  refine lv_iload_n hx hb dX2_repeat_22 rfl (lv_at hl 0 rfl) ?_
  rw [show (nI q * 5 : Int32) = nI (q * 5 + 0) by rw [Nat.add_zero, show (5 : Int32) = nI 5 from rfl, pk_mul]]
  refine zan21 X hK hW2 (by omega) dX2_repeat_23 ?_
  rw [show zA δ 21 0 (q * 5 + 0) = nI n from hk0]
  refine lv_istore (lv' := [(4, .int (nI n)), (3, .int ((nI q) * 5)), (0, .ref (ad2 20 0)), (1, .int (nI q)), (2, .ref (ad 0 0))]) hx hb dX2_repeat_24 hl (by decide) rfl (fun ls hl => ?_)
  refine lv_aload_n hx hb dX2_repeat_26 rfl (lv_at hl 2 rfl) ?_
  refine zg2_1 X hK hW2 m_305 dX2_repeat_27 ?_
  refine lv_iload_n hx hb dX2_repeat_30 rfl (lv_at hl 1 rfl) ?_
  refine lv_iconst (v := 1) hx hb dX2_repeat_31 (by decide) ?_
  refine lv_iadd hx hb dX2_repeat_32 ?_
  rw [show (nI q * 5 : Int32) + 1 = nI (q * 5 + 1) from zrow (j := 1)]
  refine zan21 X hK hW2 (by omega) dX2_repeat_33 ?_
  refine lv_istore (lv' := [(5, .int (zA δ 21 0 (q * 5 + 1))), (4, .int (nI n)), (3, .int ((nI q) * 5)), (0, .ref (ad2 20 0)), (1, .int (nI q)), (2, .ref (ad 0 0))]) hx hb dX2_repeat_34 hl (by decide) rfl (fun ls hl => ?_)
  refine lv_aload_n hx hb dX2_repeat_36 rfl (lv_at hl 3 rfl) ?_
  refine zg2_1 X hK hW2 m_305 dX2_repeat_37 ?_
  refine lv_iload_n hx hb dX2_repeat_40 rfl (lv_at hl 2 rfl) ?_
  refine lv_iconst (v := 2) hx hb dX2_repeat_41 (by decide) ?_
  refine lv_iadd hx hb dX2_repeat_42 ?_
  rw [show (nI q * 5 : Int32) + 2 = nI (q * 5 + 2) from zrow (j := 2)]
  refine zan21 X hK hW2 (by omega) dX2_repeat_43 ?_
  refine lv_istore (lv' := [(6, .int (zA δ 21 0 (q * 5 + 2))), (5, .int (zA δ 21 0 (q * 5 + 1))), (4, .int (nI n)), (3, .int ((nI q) * 5)), (0, .ref (ad2 20 0)), (1, .int (nI q)), (2, .ref (ad 0 0))]) hx hb dX2_repeat_44 hl (by decide) rfl (fun ls hl => ?_)
  refine lv_aload_n hx hb dX2_repeat_46 rfl (lv_at hl 4 rfl) ?_
  refine zg2_1 X hK hW2 m_305 dX2_repeat_47 ?_
  refine lv_iload_n hx hb dX2_repeat_50 rfl (lv_at hl 3 rfl) ?_
  refine lv_iconst (v := 3) hx hb dX2_repeat_51 (by decide) ?_
  refine lv_iadd hx hb dX2_repeat_52 ?_
  rw [show (nI q * 5 : Int32) + 3 = nI (q * 5 + 3) from zrow (j := 3)]
  refine zan21 X hK hW2 (by omega) dX2_repeat_53 ?_
  refine lv_istore (lv' := [(7, .int (zA δ 21 0 (q * 5 + 3))), (6, .int (zA δ 21 0 (q * 5 + 2))), (5, .int (zA δ 21 0 (q * 5 + 1))), (4, .int (nI n)), (3, .int ((nI q) * 5)), (0, .ref (ad2 20 0)), (1, .int (nI q)), (2, .ref (ad 0 0))]) hx hb dX2_repeat_54 hl (by decide) rfl (fun ls hl => ?_)
  refine lv_aload_n hx hb dX2_repeat_56 rfl (lv_at hl 5 rfl) ?_
  refine zg2_1 X hK hW2 m_305 dX2_repeat_57 ?_
  refine lv_iload_n hx hb dX2_repeat_60 rfl (lv_at hl 4 rfl) ?_
  refine lv_iconst (v := 4) hx hb dX2_repeat_61 (by decide) ?_
  refine lv_iadd hx hb dX2_repeat_62 ?_
  rw [show (nI q * 5 : Int32) + 4 = nI (q * 5 + 4) from zrow (j := 4)]
  refine zan21 X hK hW2 (by omega) dX2_repeat_63 ?_
  refine lv_istore (lv' := [(8, .int (zA δ 21 0 (q * 5 + 4))), (7, .int (zA δ 21 0 (q * 5 + 3))), (6, .int (zA δ 21 0 (q * 5 + 2))), (5, .int (zA δ 21 0 (q * 5 + 1))), (4, .int (nI n)), (3, .int ((nI q) * 5)), (0, .ref (ad2 20 0)), (1, .int (nI q)), (2, .ref (ad 0 0))]) hx hb dX2_repeat_64 hl (by decide) rfl (fun ls hl => ?_)
  refine lv_aload_n hx hb dX2_repeat_66 rfl (lv_at hl 8 rfl) ?_
  refine lv_iload hx hb dX2_repeat_67 (lv_at hl 4 rfl) ?_
  refine lv_iload hx hb dX2_repeat_69 (lv_at hl 3 rfl) ?_
  refine lv_iload hx hb dX2_repeat_71 (lv_at hl 2 rfl) ?_
  refine lv_iload hx hb dX2_repeat_73 (lv_at hl 1 rfl) ?_
  refine lv_iload hx hb dX2_repeat_75 (lv_at hl 0 rfl) ?_
  refine zcallRSe (As := [.ref (ad 0 0), .int (nI n), .int (zA δ 21 0 (q * 5 + 1)), .int (zA δ 21 0 (q * 5 + 2)), .int (zA δ 21 0 (q * 5 + 3)), .int (zA δ 21 0 (q * 5 + 4))]) (rest := []) X hml hK hE hW (ctX8_refusalOf l D cy rf ad σ n hn (zA δ 21 0 (q * 5 + 1)) (zA δ 21 0 (q * 5 + 2)) (zA δ 21 0 (q * 5 + 3)) (zA δ 21 0 (q * 5 + 4)) hV) zmX8_refusalOf (by decide) m_337 ⟨Nat.le_of_ble_eq_true rfl, Nat.le_of_ble_eq_true rfl⟩ ⟨Nat.zero_le _, Nat.zero_le _⟩ rfl hl.1 rfl (Nat.le_of_ble_eq_true rfl) dX2_repeat_77 ?_
  refine zgetE X hE (va_S.rf) 0 (by decide) rfl m_461 dX2_repeat_80 ?_
  refine zcmpE_eq (tgt := 88) X hE.2.1 (k_ref_lt _ hn _ _ _ _) (by decide) dX2_repeat_83 (by decide) (fun b3 => ?_) (fun b3 => ?_)
  · have hz : k_rref δ σ q = 0 := by rw [k_rref, hk0]; exact b3
    refine lv_aload_n hx hb dX2_repeat_88 rfl (lv_at hl 8 rfl) ?_
    refine lv_iload hx hb dX2_repeat_89 (lv_at hl 4 rfl) ?_
    refine lv_iload hx hb dX2_repeat_91 (lv_at hl 3 rfl) ?_
    refine lv_iload hx hb dX2_repeat_93 (lv_at hl 2 rfl) ?_
    refine lv_iload hx hb dX2_repeat_95 (lv_at hl 1 rfl) ?_
    refine lv_iload hx hb dX2_repeat_97 (lv_at hl 0 rfl) ?_
    refine zcallMV (As := [.int (nI n), .int (zA δ 21 0 (q * 5 + 1)), .int (zA δ 21 0 (q * 5 + 2)), .int (zA δ 21 0 (q * 5 + 3)), .int (zA δ 21 0 (q * 5 + 4))]) (rest := []) X hml hK hW (ctX5_perform l D cy ad σ hj n hn (zA δ 21 0 (q * 5 + 1)) (zA δ 21 0 (q * 5 + 2)) (zA δ 21 0 (q * 5 + 3)) (zA δ 21 0 (q * 5 + 4)) hV (by rw [k_rref, hk0] at hz; exact hz)) zmX5_perform (by decide) m_462 (zrecv hK (hW 0 0 rfl (by decide)) rfl) ⟨Nat.le_of_ble_eq_true rfl, Nat.le_of_ble_eq_true rfl⟩ ⟨Nat.zero_le _, Nat.zero_le _⟩ rfl hl.1 rfl (Nat.le_of_ble_eq_true rfl) dX2_repeat_99 hS hA (fun H locs hW hsz hfr hS => ?_)
    refine lv_pop hx hb dX2_repeat_102 rfl ?_
    refine lv_iconst (v := 1) hx hb dX2_repeat_103 (by decide) ?_
    exact zm_z hx hb hr hlocks (by rw [r_X2_repeat]; simp [hz, bI_t, bI_f]) (by rw [f_X2_repeat, if_pos hz, k_rpf, hk0]; exact hW) hS dX2_repeat_104
  · have hz : ¬ k_rref δ σ q = 0 := by rw [k_rref, hk0]; exact b3
    refine lv_iconst (v := 0) hx hb dX2_repeat_86 (by decide) ?_
    exact zm_z hx hb hr hlocks (by rw [r_X2_repeat]; simp [hz, bI_t, bI_f]) (by rw [f_X2_repeat, if_neg hz]; exact hW) hS dX2_repeat_87
