theorem y6c {x : Int32} {j : Nat} (hx : vp_in x 30) (hj : j < 6) : (6 * x + nI j).toNatClampNeg = 6 * x.toNatClampNeg + j := by
  obtain ⟨i, hi, rfl⟩ := vp_in_of hx (by decide)
  rw [nI_m6, nI_add, nI_clamp (by omega), nI_clamp (by omega)]
def y_areFit (μ : zS) (q : Nat) : Bool := zall (fun i => y_fit μ (zA μ 61 0 (6 * q + i)).toNatClampNeg && y_fit μ (zA μ 62 0 (6 * q + i)).toNatClampNeg) (zA μ 59 0 q).toNatClampNeg
theorem zmX10_areFit : zmV yX10_areFit RX10 cX10_areFit 4 (some .boolean) 1 := ⟨m_1420, s_57, m_9, m_1421, rfl, by decide, by decide, by decide +kernel⟩
set_option maxRecDepth 100000 in
set_option maxHeartbeats 4000000 in
theorem ctX10_areFit (l : Launch) (D : va_G) (cy : Nat → ClassId) (ad : Nat → Nat → Nat) (μ : zS) (q : Nat) (hi_q : q < 30) (hV : yV μ) (a0 : Nat) (he : zA μ 59 0 q = nI a0) (ha6 : a0 ≤ 6) (hin : ∀ i, i < a0 → vp_in (zA μ 61 0 (6 * q + i)) 24 ∧ vp_in (zA μ 62 0 (6 * q + i)) 24) : Met l yX10_areFit (zw yX10_areFit cX10_areFit 4 (some .boolean)) (zrm 4) (va_Pc [.ref (ad 30 0), .int (nI q)] (zB D cy (zW D cy ad zsM μ))) (zqR (.int (bI (y_areFit μ q)))) 0 0 (fun _ => False) := by
  refine zmet (by decide) rfl (Nat.le_of_ble_eq_true rfl) rfl (fun p e s m below meth c ls X hml hr hlocks hv hl => ?_)
  obtain ⟨hK, hW⟩ := hv
  obtain ⟨hx, hb, -, -⟩ := id X
  have hl : lv_has ls 4 [(0, .ref (ad 30 0)), (1, .int (nI q))] := hl
  refine lv_iconst (v := 1) hx hb dX10_areFit_0 (by decide) ?_
  refine lv_istore_n (lv' := [(2, .int 1), (0, .ref (ad 30 0)), (1, .int (nI q))]) hx hb dX10_areFit_1 rfl hl (by decide) rfl (fun ls hl => ?_)
  refine lv_iconst (v := 0) hx hb dX10_areFit_2 (by decide) ?_
  refine lv_istore_n (lv' := [(3, .int 0), (2, .int 1), (0, .ref (ad 30 0)), (1, .int (nI q))]) hx hb dX10_areFit_3 rfl hl (by decide) rfl (fun ls hl => ?_)
  have loop4 : ∀ (n : Nat) (k : Nat) (a : Bool) (ls : Array Slot), lv_has ls 4 [(0, .ref (ad 30 0)), (1, .int (nI q)), (2, .int (bI a)), (3, .int (nI k))] → a0 + 1 - k < n → (k ≤ a0) → (a = zall (fun i => y_fit μ (zA μ 61 0 (6 * q + i)).toNatClampNeg && y_fit μ (zA μ 62 0 (6 * q + i)).toNatClampNeg) k) → W p l e (zrm 4) s m ([.ref (ad 30 0), .int (nI q)] : List Value).toArray below meth c s.heap [] 0 0 (MQ below (zqR (.int (bI (y_areFit μ q)))) ([.ref (ad 30 0), .int (nI q)] : List Value).toArray s 0 0 (fun _ => False)) (F0 m 4 ls []) := by
    intro n
    induction n with
    | zero => intro k a ls hl hm hk ha; exact absurd hm (Nat.not_lt_zero _)
    | succ n ih4 =>
      intro k a ls hl hm hk ha
      refine lv_iload_n hx hb dX10_areFit_4 rfl (lv_at hl 3 rfl) ?_
      refine lv_aload_n hx hb dX10_areFit_5 rfl (lv_at hl 0 rfl) ?_
      refine zg8_28 X hK hW m_1134 dX10_areFit_6 ?_
      refine lv_iload_n hx hb dX10_areFit_9 rfl (lv_at hl 1 rfl) ?_
      refine zan59 X hK hW (by omega) dX10_areFit_10 ?_
      refine lv_icmp_ge (tgt := 66) hx hb dX10_areFit_11 (by decide) (fun b1 => ?_) (fun b1 => ?_)
      · refine lv_iload_n hx hb dX10_areFit_66 rfl (lv_at hl 2 rfl) ?_
        exact ze_z hx hb hr hlocks (by rw [y_areFit, he, nI_clamp (by omega), ← zge_c (by omega) hk (by rw [← he]; exact b1), ha]) dX10_areFit_67
      · have hlt : k < a0 := zlt_c (by omega) hk (by rw [← he]; exact b1)
        refine lv_iload_n hx hb dX10_areFit_14 rfl (lv_at hl 2 rfl) ?_
        refine zb_eq (tgt := 58) hx hb dX10_areFit_15 (by decide) (fun b2 => ?_) (fun b2 => ?_)
        · refine lv_iconst (v := 0) hx hb dX10_areFit_58 (by decide) ?_
          refine lv_istore_n (lv' := [(2, .int 0), (0, .ref (ad 30 0)), (1, .int (nI q)), (3, .int (nI k))]) hx hb dX10_areFit_59 rfl hl (by decide) rfl (fun ls hl => ?_)
          refine lv_iinc (v := nI (k + 1)) (lv' := [(3, .int (nI (k + 1))), (2, .int 0), (0, .ref (ad 30 0)), (1, .int (nI q))]) hx hb dX10_areFit_60 hl (k := 3) rfl (nI_1 k) (by decide) rfl (fun ls hl => ?_)
          refine lv_goto (tgt := 4) hx hb dX10_areFit_63 (by decide) ?_
          exact ih4 (k + 1) false _ (lv_sub hl [2, 3, 1, 0] rfl) (by omega) hlt (by rw [zall, ← ha]; simp [b1, Int32.not_le.mp b1, b2])
        · refine lv_aload_n hx hb dX10_areFit_18 rfl (lv_at hl 0 rfl) ?_
          refine lv_aload_n hx hb dX10_areFit_19 rfl (lv_at hl 0 rfl) ?_
          refine zg8_30 X hK hW m_1136 dX10_areFit_20 ?_
          refine lv_bipush (v := 6) hx hb dX10_areFit_23 (by decide) ?_
          refine lv_iload_n hx hb dX10_areFit_25 rfl (lv_at hl 1 rfl) ?_
          refine lv_imul hx hb dX10_areFit_26 ?_
          refine lv_iload_n hx hb dX10_areFit_27 rfl (lv_at hl 3 rfl) ?_
          refine lv_iadd hx hb dX10_areFit_28 ?_
          rw [show 6 * nI q + nI k = nI (6 * q + k) by rw [nI_m6, nI_add]]
          refine zan61 X hK hW (by omega) dX10_areFit_29 ?_
          refine zcallRV (As := [.int (zA μ 61 0 (6 * q + k))]) (rest := []) X hml hK hW (ctX10_isFit_x l D cy ad μ (zA μ 61 0 (6 * q + k)) (hin k hlt).1 hV) zmX10_isFit (by decide) m_1394 (zrecv hK (hW 30 0 rfl (by decide)) rfl) ⟨Nat.le_of_ble_eq_true rfl, Nat.le_of_ble_eq_true rfl⟩ ⟨Nat.zero_le _, Nat.zero_le _⟩ rfl hl.1 rfl (Nat.le_of_ble_eq_true rfl) dX10_areFit_30 ?_
          refine zb_eq (tgt := 58) hx hb dX10_areFit_33 (by decide) (fun b3 => ?_) (fun b3 => ?_)
          · refine lv_iconst (v := 0) hx hb dX10_areFit_58 (by decide) ?_
            refine lv_istore_n (lv' := [(2, .int 0), (0, .ref (ad 30 0)), (1, .int (nI q)), (3, .int (nI k))]) hx hb dX10_areFit_59 rfl hl (by decide) rfl (fun ls hl => ?_)
            refine lv_iinc (v := nI (k + 1)) (lv' := [(3, .int (nI (k + 1))), (2, .int 0), (0, .ref (ad 30 0)), (1, .int (nI q))]) hx hb dX10_areFit_60 hl (k := 3) rfl (nI_1 k) (by decide) rfl (fun ls hl => ?_)
            refine lv_goto (tgt := 4) hx hb dX10_areFit_63 (by decide) ?_
            exact ih4 (k + 1) false _ (lv_sub hl [2, 3, 1, 0] rfl) (by omega) hlt (by rw [zall, ← ha]; simp [b1, Int32.not_le.mp b1, b2, b3])
          · refine lv_aload_n hx hb dX10_areFit_36 rfl (lv_at hl 0 rfl) ?_
            refine lv_aload_n hx hb dX10_areFit_37 rfl (lv_at hl 0 rfl) ?_
            refine zg8_31 X hK hW m_1137 dX10_areFit_38 ?_
            refine lv_bipush (v := 6) hx hb dX10_areFit_41 (by decide) ?_
            refine lv_iload_n hx hb dX10_areFit_43 rfl (lv_at hl 1 rfl) ?_
            refine lv_imul hx hb dX10_areFit_44 ?_
            refine lv_iload_n hx hb dX10_areFit_45 rfl (lv_at hl 3 rfl) ?_
            refine lv_iadd hx hb dX10_areFit_46 ?_
            rw [show 6 * nI q + nI k = nI (6 * q + k) by rw [nI_m6, nI_add]]
            refine zan62 X hK hW (by omega) dX10_areFit_47 ?_
            refine zcallRV (As := [.int (zA μ 62 0 (6 * q + k))]) (rest := []) X hml hK hW (ctX10_isFit_x l D cy ad μ (zA μ 62 0 (6 * q + k)) (hin k hlt).2 hV) zmX10_isFit (by decide) m_1394 (zrecv hK (hW 30 0 rfl (by decide)) rfl) ⟨Nat.le_of_ble_eq_true rfl, Nat.le_of_ble_eq_true rfl⟩ ⟨Nat.zero_le _, Nat.zero_le _⟩ rfl hl.1 rfl (Nat.le_of_ble_eq_true rfl) dX10_areFit_48 ?_
            refine zb_eq (tgt := 58) hx hb dX10_areFit_51 (by decide) (fun b4 => ?_) (fun b4 => ?_)
            · refine lv_iconst (v := 0) hx hb dX10_areFit_58 (by decide) ?_
              refine lv_istore_n (lv' := [(2, .int 0), (0, .ref (ad 30 0)), (1, .int (nI q)), (3, .int (nI k))]) hx hb dX10_areFit_59 rfl hl (by decide) rfl (fun ls hl => ?_)
              refine lv_iinc (v := nI (k + 1)) (lv' := [(3, .int (nI (k + 1))), (2, .int 0), (0, .ref (ad 30 0)), (1, .int (nI q))]) hx hb dX10_areFit_60 hl (k := 3) rfl (nI_1 k) (by decide) rfl (fun ls hl => ?_)
              refine lv_goto (tgt := 4) hx hb dX10_areFit_63 (by decide) ?_
              exact ih4 (k + 1) false _ (lv_sub hl [2, 3, 1, 0] rfl) (by omega) hlt (by rw [zall, ← ha]; simp [b1, Int32.not_le.mp b1, b2, b3, b4])
            · refine lv_iconst (v := 1) hx hb dX10_areFit_54 (by decide) ?_
              refine lv_goto (tgt := 59) hx hb dX10_areFit_55 (by decide) ?_
              refine lv_istore_n (lv' := [(2, .int 1), (0, .ref (ad 30 0)), (1, .int (nI q)), (3, .int (nI k))]) hx hb dX10_areFit_59 rfl hl (by decide) rfl (fun ls hl => ?_)
              refine lv_iinc (v := nI (k + 1)) (lv' := [(3, .int (nI (k + 1))), (2, .int 1), (0, .ref (ad 30 0)), (1, .int (nI q))]) hx hb dX10_areFit_60 hl (k := 3) rfl (nI_1 k) (by decide) rfl (fun ls hl => ?_)
              refine lv_goto (tgt := 4) hx hb dX10_areFit_63 (by decide) ?_
              exact ih4 (k + 1) true _ (lv_sub hl [2, 3, 1, 0] rfl) (by omega) hlt (by rw [zall, ← ha]; simp [b1, Int32.not_le.mp b1, b2, b3, b4])
  exact loop4 _ 0 true _ (lv_sub hl [2, 3, 1, 0] rfl) (Nat.lt_succ_self _) (Nat.zero_le _) rfl
theorem ctX10_areFit_x (l : Launch) (D : va_G) (cy : Nat → ClassId) (ad : Nat → Nat → Nat) (μ : zS) (x : Int32) (hx : y_has μ 842 x = true) (hV : yV μ) : Met l yX10_areFit (zw yX10_areFit cX10_areFit 4 (some .boolean)) (zrm 4) (va_Pc [.ref (ad 30 0), .int x] (zB D cy (zW D cy ad zsM μ))) (zqR (.int (bI (y_areFit μ x.toNatClampNeg)))) 0 0 (fun _ => False) := by
  obtain ⟨a0, ha6, he, hin⟩ := yab hV hx
  obtain ⟨j, hj, rfl⟩ := vp_in_of (yhas_in hV.1.2.2.2.1 (by decide) hx) (by decide)
  rw [nI_clamp (by omega)] at he hin ⊢
  exact ctX10_areFit l D cy ad μ j hj hV a0 he ha6 hin
def f_X10_leave (μ : zS) (w1 : Int32) : zS := if y_has μ 842 w1 = true then if (zA μ 59 0 w1.toNatClampNeg) = 0 then (f_X10_fails μ 2) else if ¬ (zA μ 60 0 w1.toNatClampNeg) = 1 then (f_X10_tell (zpA (zpA (zpA μ 59 0 w1.toNatClampNeg ((zA μ 59 0 w1.toNatClampNeg) - 1)) 38 0 ((zA (zpA μ 59 0 w1.toNatClampNeg ((zA μ 59 0 w1.toNatClampNeg) - 1)) 61 0 ((6 * w1) + (zA (zpA μ 59 0 w1.toNatClampNeg ((zA μ 59 0 w1.toNatClampNeg) - 1)) 59 0 w1.toNatClampNeg)).toNatClampNeg).toNatClampNeg) 107) 38 0 ((zA (zpA (zpA μ 59 0 w1.toNatClampNeg ((zA μ 59 0 w1.toNatClampNeg) - 1)) 38 0 ((zA (zpA μ 59 0 w1.toNatClampNeg ((zA μ 59 0 w1.toNatClampNeg) - 1)) 61 0 ((6 * w1) + (zA (zpA μ 59 0 w1.toNatClampNeg ((zA μ 59 0 w1.toNatClampNeg) - 1)) 59 0 w1.toNatClampNeg)).toNatClampNeg).toNatClampNeg) 107) 62 0 ((6 * w1) + (zA (zpA (zpA μ 59 0 w1.toNatClampNeg ((zA μ 59 0 w1.toNatClampNeg) - 1)) 38 0 ((zA (zpA μ 59 0 w1.toNatClampNeg ((zA μ 59 0 w1.toNatClampNeg) - 1)) 61 0 ((6 * w1) + (zA (zpA μ 59 0 w1.toNatClampNeg ((zA μ 59 0 w1.toNatClampNeg) - 1)) 59 0 w1.toNatClampNeg)).toNatClampNeg).toNatClampNeg) 107) 59 0 w1.toNatClampNeg)).toNatClampNeg).toNatClampNeg) 107) (zA (zpA (zpA (zpA μ 59 0 w1.toNatClampNeg ((zA μ 59 0 w1.toNatClampNeg) - 1)) 38 0 ((zA (zpA μ 59 0 w1.toNatClampNeg ((zA μ 59 0 w1.toNatClampNeg) - 1)) 61 0 ((6 * w1) + (zA (zpA μ 59 0 w1.toNatClampNeg ((zA μ 59 0 w1.toNatClampNeg) - 1)) 59 0 w1.toNatClampNeg)).toNatClampNeg).toNatClampNeg) 107) 38 0 ((zA (zpA (zpA μ 59 0 w1.toNatClampNeg ((zA μ 59 0 w1.toNatClampNeg) - 1)) 38 0 ((zA (zpA μ 59 0 w1.toNatClampNeg ((zA μ 59 0 w1.toNatClampNeg) - 1)) 61 0 ((6 * w1) + (zA (zpA μ 59 0 w1.toNatClampNeg ((zA μ 59 0 w1.toNatClampNeg) - 1)) 59 0 w1.toNatClampNeg)).toNatClampNeg).toNatClampNeg) 107) 62 0 ((6 * w1) + (zA (zpA (zpA μ 59 0 w1.toNatClampNeg ((zA μ 59 0 w1.toNatClampNeg) - 1)) 38 0 ((zA (zpA μ 59 0 w1.toNatClampNeg ((zA μ 59 0 w1.toNatClampNeg) - 1)) 61 0 ((6 * w1) + (zA (zpA μ 59 0 w1.toNatClampNeg ((zA μ 59 0 w1.toNatClampNeg) - 1)) 59 0 w1.toNatClampNeg)).toNatClampNeg).toNatClampNeg) 107) 59 0 w1.toNatClampNeg)).toNatClampNeg).toNatClampNeg) 107) 59 0 w1.toNatClampNeg)) else (f_X10_fails μ 2) else (f_X10_fails μ 1)
def r_X10_leave (μ : zS) (w1 : Int32) : Int32 := if y_has μ 842 w1 = true then if (zA μ 59 0 w1.toNatClampNeg) = 0 then r_X10_fails μ 2 else if ¬ (zA μ 60 0 w1.toNatClampNeg) = 1 then r_X10_tell (zpA (zpA (zpA μ 59 0 w1.toNatClampNeg ((zA μ 59 0 w1.toNatClampNeg) - 1)) 38 0 ((zA (zpA μ 59 0 w1.toNatClampNeg ((zA μ 59 0 w1.toNatClampNeg) - 1)) 61 0 ((6 * w1) + (zA (zpA μ 59 0 w1.toNatClampNeg ((zA μ 59 0 w1.toNatClampNeg) - 1)) 59 0 w1.toNatClampNeg)).toNatClampNeg).toNatClampNeg) 107) 38 0 ((zA (zpA (zpA μ 59 0 w1.toNatClampNeg ((zA μ 59 0 w1.toNatClampNeg) - 1)) 38 0 ((zA (zpA μ 59 0 w1.toNatClampNeg ((zA μ 59 0 w1.toNatClampNeg) - 1)) 61 0 ((6 * w1) + (zA (zpA μ 59 0 w1.toNatClampNeg ((zA μ 59 0 w1.toNatClampNeg) - 1)) 59 0 w1.toNatClampNeg)).toNatClampNeg).toNatClampNeg) 107) 62 0 ((6 * w1) + (zA (zpA (zpA μ 59 0 w1.toNatClampNeg ((zA μ 59 0 w1.toNatClampNeg) - 1)) 38 0 ((zA (zpA μ 59 0 w1.toNatClampNeg ((zA μ 59 0 w1.toNatClampNeg) - 1)) 61 0 ((6 * w1) + (zA (zpA μ 59 0 w1.toNatClampNeg ((zA μ 59 0 w1.toNatClampNeg) - 1)) 59 0 w1.toNatClampNeg)).toNatClampNeg).toNatClampNeg) 107) 59 0 w1.toNatClampNeg)).toNatClampNeg).toNatClampNeg) 107) (zA (zpA (zpA (zpA μ 59 0 w1.toNatClampNeg ((zA μ 59 0 w1.toNatClampNeg) - 1)) 38 0 ((zA (zpA μ 59 0 w1.toNatClampNeg ((zA μ 59 0 w1.toNatClampNeg) - 1)) 61 0 ((6 * w1) + (zA (zpA μ 59 0 w1.toNatClampNeg ((zA μ 59 0 w1.toNatClampNeg) - 1)) 59 0 w1.toNatClampNeg)).toNatClampNeg).toNatClampNeg) 107) 38 0 ((zA (zpA (zpA μ 59 0 w1.toNatClampNeg ((zA μ 59 0 w1.toNatClampNeg) - 1)) 38 0 ((zA (zpA μ 59 0 w1.toNatClampNeg ((zA μ 59 0 w1.toNatClampNeg) - 1)) 61 0 ((6 * w1) + (zA (zpA μ 59 0 w1.toNatClampNeg ((zA μ 59 0 w1.toNatClampNeg) - 1)) 59 0 w1.toNatClampNeg)).toNatClampNeg).toNatClampNeg) 107) 62 0 ((6 * w1) + (zA (zpA (zpA μ 59 0 w1.toNatClampNeg ((zA μ 59 0 w1.toNatClampNeg) - 1)) 38 0 ((zA (zpA μ 59 0 w1.toNatClampNeg ((zA μ 59 0 w1.toNatClampNeg) - 1)) 61 0 ((6 * w1) + (zA (zpA μ 59 0 w1.toNatClampNeg ((zA μ 59 0 w1.toNatClampNeg) - 1)) 59 0 w1.toNatClampNeg)).toNatClampNeg).toNatClampNeg) 107) 59 0 w1.toNatClampNeg)).toNatClampNeg).toNatClampNeg) 107) 59 0 w1.toNatClampNeg) else r_X10_fails μ 2 else r_X10_fails μ 1
theorem zmX10_leave : zmV yX10_leave RX10 cX10_leave 2 (some .int) 1 := ⟨m_1411, m_1412, m_9, m_1413, rfl, by decide, by decide, by decide +kernel⟩
set_option maxRecDepth 100000 in
set_option maxHeartbeats 4000000 in
theorem ctX10_leave (l : Launch) (D : va_G) (cy : Nat → ClassId) (ad : Nat → Nat → Nat) (μ : zS) (hj : zinj ad zsM) (w1 : Int32) (hV : yV μ) : Met l yX10_leave (zw yX10_leave cX10_leave 2 (some .int)) (zrm 2) (va_Pc [.ref (ad 30 0), .int w1] (zB D cy (zW D cy ad zsM μ))) (zqM (some (.int (r_X10_leave μ w1))) (zW D cy ad zsM (f_X10_leave μ w1)) (zrg ad zsM)) 0 0 (zrg ad zsM) := by
  refine zmet (by decide) rfl (Nat.le_of_ble_eq_true rfl) rfl (fun p e s m below meth c ls X hml hr hlocks hv hl => ?_)
  obtain ⟨hK, hW⟩ := hv
  obtain ⟨hx, hb, -, -⟩ := id X
  have hl : lv_has ls 2 [(0, .ref (ad 30 0)), (1, .int w1)] := hl
  have hS : va_S (zrg ad zsM) s.heap s.heap [] := va_S.rf
  generalize hAe : zrg ad zsM = A at hS ⊢
  have hA : ∀ q, zrg ad zsM q → A q := fun q h => by rw [← hAe]; exact h
  refine lv_aload_n hx hb dX10_leave_0 rfl (lv_at hl 0 rfl) ?_
  refine lv_iload_n hx hb dX10_leave_1 rfl (lv_at hl 1 rfl) ?_
  refine zcallRV (As := [.int w1]) (rest := []) X hml hK hW (ctX10_isLoad l D cy ad μ w1) zmX10_isLoad (by decide) m_1390 (zrecv hK (hW 30 0 rfl (by decide)) rfl) ⟨Nat.le_of_ble_eq_true rfl, Nat.le_of_ble_eq_true rfl⟩ ⟨Nat.zero_le _, Nat.zero_le _⟩ rfl hl.1 rfl (Nat.le_of_ble_eq_true rfl) dX10_leave_2 ?_
  refine zb_ne (tgt := 14) hx hb dX10_leave_5 (by decide) (fun b1 => ?_) (fun b1 => ?_)
  · refine lv_aload_n hx hb dX10_leave_14 rfl (lv_at hl 0 rfl) ?_
    refine zg8_28 X hK hW m_1134 dX10_leave_15 ?_
    refine lv_iload_n hx hb dX10_leave_18 rfl (lv_at hl 1 rfl) ?_
    refine za59 X hK hW (yhas_in hV.1.2.2.2.1 (by decide) b1) dX10_leave_19 ?_
    refine lv_if_eq (tgt := 33) hx hb dX10_leave_20 (by decide) (fun b2 => ?_) (fun b2 => ?_)
    · refine lv_aload_n hx hb dX10_leave_33 rfl (lv_at hl 0 rfl) ?_
      refine lv_iconst (v := 2) hx hb dX10_leave_34 (by decide) ?_
      refine zcallMV (As := [.int 2]) (rest := []) X hml hK hW (ctX10_fails l D cy ad μ hj 2) zmX10_fails (by decide) m_1262 (zrecv hK (hW 30 0 rfl (by decide)) rfl) ⟨Nat.le_of_ble_eq_true rfl, Nat.le_of_ble_eq_true rfl⟩ ⟨Nat.zero_le _, Nat.zero_le _⟩ rfl hl.1 rfl (Nat.le_of_ble_eq_true rfl) dX10_leave_35 hS hA (fun H locs hW hsz hfr hS => ?_)
      exact zm_i hx hb hr hlocks (by rw [r_X10_leave, if_pos b1, if_pos b2]) (by rw [f_X10_leave, if_pos b1, if_pos b2]; exact hW) hS dX10_leave_38
    · refine lv_aload_n hx hb dX10_leave_23 rfl (lv_at hl 0 rfl) ?_
      refine zg8_29 X hK hW m_1135 dX10_leave_24 ?_
      refine lv_iload_n hx hb dX10_leave_27 rfl (lv_at hl 1 rfl) ?_
      refine za60 X hK hW (yhas_in hV.1.2.2.2.1 (by decide) b1) dX10_leave_28 ?_
      refine lv_iconst (v := 1) hx hb dX10_leave_29 (by decide) ?_
      refine lv_icmp_ne (tgt := 39) hx hb dX10_leave_30 (by decide) (fun b3 => ?_) (fun b3 => ?_)
      · have hL := (yhas_in hV.1.2.2.2.1 (by decide) b1)
        obtain ⟨a9, ha6, ha, hin⟩ := yab hV b1
        obtain ⟨a8, rfl⟩ : ∃ a8, a9 = a8 + 1 := by
            cases a9 with
            | zero => exact absurd ha b2
            | succ a8 => exact ⟨a8, rfl⟩
        have e1 : zA (zpA μ 59 0 w1.toNatClampNeg (zA μ 59 0 w1.toNatClampNeg - 1)) 59 0 w1.toNatClampNeg = nI a8 := by rw [zA_pA, if_pos ⟨rfl, rfl, rfl⟩, ha]; exact nI_pred a8
        have e2 : ∀ i v, zA (zpA (zpA μ 59 0 w1.toNatClampNeg (zA μ 59 0 w1.toNatClampNeg - 1)) 38 0 i v) 59 0 w1.toNatClampNeg = nI a8 := fun i v => by rw [zA_pA, if_neg (fun z => absurd z.1 (by decide)), e1]
        refine lv_aload_n hx hb dX10_leave_39 rfl (lv_at hl 0 rfl) ?_
        refine zg8_28 X hK hW m_1134 dX10_leave_40 ?_
        refine lv_iload_n hx hb dX10_leave_43 rfl (lv_at hl 1 rfl) ?_
        refine lv_dup2_11 hx hb dX10_leave_44 rfl rfl ?_
        refine za59 X hK hW (yhas_in hV.1.2.2.2.1 (by decide) b1) dX10_leave_45 ?_
        refine lv_iconst (v := 1) hx hb dX10_leave_46 (by decide) ?_
        refine lv_isub hx hb dX10_leave_47 ?_
        refine zs59 X hK hW hj hA hS (yhas_in hV.1.2.2.2.1 (by decide) b1) dX10_leave_48 (fun H locs hW hS => ?_)
        refine lv_aload_n hx hb dX10_leave_49 rfl (lv_at hl 0 rfl) ?_
        refine zg8_7 X hK hW m_1113 dX10_leave_50 ?_
        refine lv_aload_n hx hb dX10_leave_53 rfl (lv_at hl 0 rfl) ?_
        refine zg8_30 X hK hW m_1136 dX10_leave_54 ?_
        refine lv_bipush (v := 6) hx hb dX10_leave_57 (by decide) ?_
        refine lv_iload_n hx hb dX10_leave_59 rfl (lv_at hl 1 rfl) ?_
        refine lv_imul hx hb dX10_leave_60 ?_
        refine lv_aload_n hx hb dX10_leave_61 rfl (lv_at hl 0 rfl) ?_
        refine zg8_28 X hK hW m_1134 dX10_leave_62 ?_
        refine lv_iload_n hx hb dX10_leave_65 rfl (lv_at hl 1 rfl) ?_
        refine za59 X hK hW (yhas_in hV.1.2.2.2.1 (by decide) b1) dX10_leave_66 ?_
        refine lv_iadd hx hb dX10_leave_67 ?_
        refine za61 X hK hW (by rw [e1]; exact y6_in hL (vp_in_nI (by omega) (by decide))) dX10_leave_68 ?_
        refine lv_bipush (v := 107) hx hb dX10_leave_69 (by decide) ?_
        refine zs38 X hK hW hj hA hS (by rw [e1, zA_pA, if_neg (fun z => absurd z.1 (by decide)), y6c hL (by omega)]; exact (hin a8 (by omega)).1) dX10_leave_71 (fun H locs hW hS => ?_)
        refine lv_aload_n hx hb dX10_leave_72 rfl (lv_at hl 0 rfl) ?_
        refine zg8_7 X hK hW m_1113 dX10_leave_73 ?_
        refine lv_aload_n hx hb dX10_leave_76 rfl (lv_at hl 0 rfl) ?_
        refine zg8_31 X hK hW m_1137 dX10_leave_77 ?_
        refine lv_bipush (v := 6) hx hb dX10_leave_80 (by decide) ?_
        refine lv_iload_n hx hb dX10_leave_82 rfl (lv_at hl 1 rfl) ?_
        refine lv_imul hx hb dX10_leave_83 ?_
        refine lv_aload_n hx hb dX10_leave_84 rfl (lv_at hl 0 rfl) ?_
        refine zg8_28 X hK hW m_1134 dX10_leave_85 ?_
        refine lv_iload_n hx hb dX10_leave_88 rfl (lv_at hl 1 rfl) ?_
        refine za59 X hK hW (yhas_in hV.1.2.2.2.1 (by decide) b1) dX10_leave_89 ?_
        refine lv_iadd hx hb dX10_leave_90 ?_
        refine za62 X hK hW (by rw [e2]; exact y6_in hL (vp_in_nI (by omega) (by decide))) dX10_leave_91 ?_
        refine lv_bipush (v := 107) hx hb dX10_leave_92 (by decide) ?_
        refine zs38 X hK hW hj hA hS (by rw [e2, zA_pA, if_neg (fun z => absurd z.1 (by decide)), zA_pA, if_neg (fun z => absurd z.1 (by decide)), y6c hL (by omega)]; exact (hin a8 (by omega)).2) dX10_leave_94 (fun H locs hW hS => ?_)
        refine lv_aload_n hx hb dX10_leave_95 rfl (lv_at hl 0 rfl) ?_
        refine lv_aload_n hx hb dX10_leave_96 rfl (lv_at hl 0 rfl) ?_
        refine zg8_28 X hK hW m_1134 dX10_leave_97 ?_
        refine lv_iload_n hx hb dX10_leave_100 rfl (lv_at hl 1 rfl) ?_
        refine za59 X hK hW (yhas_in hV.1.2.2.2.1 (by decide) b1) dX10_leave_101 ?_
        refine zcallMV (As := [.int (zA (zpA (zpA (zpA μ 59 0 w1.toNatClampNeg ((zA μ 59 0 w1.toNatClampNeg) - 1)) 38 0 ((zA (zpA μ 59 0 w1.toNatClampNeg ((zA μ 59 0 w1.toNatClampNeg) - 1)) 61 0 ((6 * w1) + (zA (zpA μ 59 0 w1.toNatClampNeg ((zA μ 59 0 w1.toNatClampNeg) - 1)) 59 0 w1.toNatClampNeg)).toNatClampNeg).toNatClampNeg) 107) 38 0 ((zA (zpA (zpA μ 59 0 w1.toNatClampNeg ((zA μ 59 0 w1.toNatClampNeg) - 1)) 38 0 ((zA (zpA μ 59 0 w1.toNatClampNeg ((zA μ 59 0 w1.toNatClampNeg) - 1)) 61 0 ((6 * w1) + (zA (zpA μ 59 0 w1.toNatClampNeg ((zA μ 59 0 w1.toNatClampNeg) - 1)) 59 0 w1.toNatClampNeg)).toNatClampNeg).toNatClampNeg) 107) 62 0 ((6 * w1) + (zA (zpA (zpA μ 59 0 w1.toNatClampNeg ((zA μ 59 0 w1.toNatClampNeg) - 1)) 38 0 ((zA (zpA μ 59 0 w1.toNatClampNeg ((zA μ 59 0 w1.toNatClampNeg) - 1)) 61 0 ((6 * w1) + (zA (zpA μ 59 0 w1.toNatClampNeg ((zA μ 59 0 w1.toNatClampNeg) - 1)) 59 0 w1.toNatClampNeg)).toNatClampNeg).toNatClampNeg) 107) 59 0 w1.toNatClampNeg)).toNatClampNeg).toNatClampNeg) 107) 59 0 w1.toNatClampNeg)]) (rest := []) X hml hK hW (ctX10_tell l D cy ad (zpA (zpA (zpA μ 59 0 w1.toNatClampNeg ((zA μ 59 0 w1.toNatClampNeg) - 1)) 38 0 ((zA (zpA μ 59 0 w1.toNatClampNeg ((zA μ 59 0 w1.toNatClampNeg) - 1)) 61 0 ((6 * w1) + (zA (zpA μ 59 0 w1.toNatClampNeg ((zA μ 59 0 w1.toNatClampNeg) - 1)) 59 0 w1.toNatClampNeg)).toNatClampNeg).toNatClampNeg) 107) 38 0 ((zA (zpA (zpA μ 59 0 w1.toNatClampNeg ((zA μ 59 0 w1.toNatClampNeg) - 1)) 38 0 ((zA (zpA μ 59 0 w1.toNatClampNeg ((zA μ 59 0 w1.toNatClampNeg) - 1)) 61 0 ((6 * w1) + (zA (zpA μ 59 0 w1.toNatClampNeg ((zA μ 59 0 w1.toNatClampNeg) - 1)) 59 0 w1.toNatClampNeg)).toNatClampNeg).toNatClampNeg) 107) 62 0 ((6 * w1) + (zA (zpA (zpA μ 59 0 w1.toNatClampNeg ((zA μ 59 0 w1.toNatClampNeg) - 1)) 38 0 ((zA (zpA μ 59 0 w1.toNatClampNeg ((zA μ 59 0 w1.toNatClampNeg) - 1)) 61 0 ((6 * w1) + (zA (zpA μ 59 0 w1.toNatClampNeg ((zA μ 59 0 w1.toNatClampNeg) - 1)) 59 0 w1.toNatClampNeg)).toNatClampNeg).toNatClampNeg) 107) 59 0 w1.toNatClampNeg)).toNatClampNeg).toNatClampNeg) 107) hj (zA (zpA (zpA (zpA μ 59 0 w1.toNatClampNeg ((zA μ 59 0 w1.toNatClampNeg) - 1)) 38 0 ((zA (zpA μ 59 0 w1.toNatClampNeg ((zA μ 59 0 w1.toNatClampNeg) - 1)) 61 0 ((6 * w1) + (zA (zpA μ 59 0 w1.toNatClampNeg ((zA μ 59 0 w1.toNatClampNeg) - 1)) 59 0 w1.toNatClampNeg)).toNatClampNeg).toNatClampNeg) 107) 38 0 ((zA (zpA (zpA μ 59 0 w1.toNatClampNeg ((zA μ 59 0 w1.toNatClampNeg) - 1)) 38 0 ((zA (zpA μ 59 0 w1.toNatClampNeg ((zA μ 59 0 w1.toNatClampNeg) - 1)) 61 0 ((6 * w1) + (zA (zpA μ 59 0 w1.toNatClampNeg ((zA μ 59 0 w1.toNatClampNeg) - 1)) 59 0 w1.toNatClampNeg)).toNatClampNeg).toNatClampNeg) 107) 62 0 ((6 * w1) + (zA (zpA (zpA μ 59 0 w1.toNatClampNeg ((zA μ 59 0 w1.toNatClampNeg) - 1)) 38 0 ((zA (zpA μ 59 0 w1.toNatClampNeg ((zA μ 59 0 w1.toNatClampNeg) - 1)) 61 0 ((6 * w1) + (zA (zpA μ 59 0 w1.toNatClampNeg ((zA μ 59 0 w1.toNatClampNeg) - 1)) 59 0 w1.toNatClampNeg)).toNatClampNeg).toNatClampNeg) 107) 59 0 w1.toNatClampNeg)).toNatClampNeg).toNatClampNeg) 107) 59 0 w1.toNatClampNeg)) zmX10_tell (by decide) m_1266 (zrecv hK (hW 30 0 rfl (by decide)) rfl) ⟨Nat.le_of_ble_eq_true rfl, Nat.le_of_ble_eq_true rfl⟩ ⟨Nat.zero_le _, Nat.zero_le _⟩ rfl hl.1 rfl (Nat.le_of_ble_eq_true rfl) dX10_leave_102 hS hA (fun H locs hW hsz hfr hS => ?_)
        exact zm_i hx hb hr hlocks (by rw [r_X10_leave, if_pos b1, if_neg b2, if_pos b3]) (by rw [f_X10_leave, if_pos b1, if_neg b2, if_pos b3]; exact hW) hS dX10_leave_105
      · refine lv_aload_n hx hb dX10_leave_33 rfl (lv_at hl 0 rfl) ?_
        refine lv_iconst (v := 2) hx hb dX10_leave_34 (by decide) ?_
        refine zcallMV (As := [.int 2]) (rest := []) X hml hK hW (ctX10_fails l D cy ad μ hj 2) zmX10_fails (by decide) m_1262 (zrecv hK (hW 30 0 rfl (by decide)) rfl) ⟨Nat.le_of_ble_eq_true rfl, Nat.le_of_ble_eq_true rfl⟩ ⟨Nat.zero_le _, Nat.zero_le _⟩ rfl hl.1 rfl (Nat.le_of_ble_eq_true rfl) dX10_leave_35 hS hA (fun H locs hW hsz hfr hS => ?_)
        exact zm_i hx hb hr hlocks (by rw [r_X10_leave, if_pos b1, if_neg b2, if_neg (not_not_intro b3)]) (by rw [f_X10_leave, if_pos b1, if_neg b2, if_neg (not_not_intro b3)]; exact hW) hS dX10_leave_38
  · refine lv_aload_n hx hb dX10_leave_8 rfl (lv_at hl 0 rfl) ?_
    refine lv_iconst (v := 1) hx hb dX10_leave_9 (by decide) ?_
    refine zcallMV (As := [.int 1]) (rest := []) X hml hK hW (ctX10_fails l D cy ad μ hj 1) zmX10_fails (by decide) m_1262 (zrecv hK (hW 30 0 rfl (by decide)) rfl) ⟨Nat.le_of_ble_eq_true rfl, Nat.le_of_ble_eq_true rfl⟩ ⟨Nat.zero_le _, Nat.zero_le _⟩ rfl hl.1 rfl (Nat.le_of_ble_eq_true rfl) dX10_leave_10 hS hA (fun H locs hW hsz hfr hS => ?_)
    exact zm_i hx hb hr hlocks (by rw [r_X10_leave, if_neg (by simp [b1])]) (by rw [f_X10_leave, if_neg (by simp [b1])]; exact hW) hS dX10_leave_13
