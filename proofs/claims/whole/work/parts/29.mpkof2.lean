theorem pk_st {p : Nat → Bool} {n k m l9 idx : Nat} (hn : idx < zct p n) (_ : m + l9 = idx) (h : zct p (k + 1) ≤ idx) : k + 1 < n := by
  rcases Nat.lt_or_ge (k + 1) n with q | q
  · exact q
  · have := zct_mono (p := p) q
    omega
theorem pk_l9 {lf : Int32} {l9 : Nat} (h : lf = nI l9) (hp : ¬ lf ≤ 0) : 1 ≤ l9 := by
  rcases Nat.eq_zero_or_pos l9 with q | q
  · exact absurd (by rw [h, q]; decide) hp
  · exact q
theorem pk_lf {l9 : Nat} (h : 1 ≤ l9) : nI l9 - 1 = nI (l9 - 1) := by
  obtain ⟨j, rfl⟩ : ∃ j, l9 = j + 1 := ⟨l9 - 1, by omega⟩
  exact nI_pred j
theorem pk_l0 {lf : Int32} {l9 : Nat} (hl : l9 < 2 ^ 31) (h : lf = nI l9) (hp : lf ≤ 0) : l9 = 0 := by
  rw [h, show (0 : Int32) = nI 0 from rfl] at hp
  have := znle hl (by decide) hp
  omega
theorem zmX10_packingOf : zmV yX10_packingOf RX10 cX10_packingOf 6 (some .int) 3 := ⟨m_1452, m_1453, m_9, m_1454, rfl, by decide, by decide, by decide +kernel⟩
set_option maxRecDepth 100000 in
set_option maxHeartbeats 4000000 in
theorem ctX10_packingOf (l : Launch) (D : va_G) (cy : Nat → ClassId) (ad : Nat → Nat → Nat) (μ : zS) (hj : zinj ad zsM) (w1 : Int32) (w2 : Int32) (w3 : Int32) (hV : yV μ) : Met l yX10_packingOf (zw yX10_packingOf cX10_packingOf 6 (some .int)) (zrm 2) (va_Pc [.ref (ad 30 0), .int w1, .int w2, .int w3] (zB D cy (zW D cy ad zsM μ))) (zqM (some (.int (r_X10_packingOf μ w1 w2 w3))) (zW D cy ad zsM (f_X10_packingOf μ w1 w2 w3)) (zrg ad zsM)) 0 0 (zrg ad zsM) := by
  refine zmet (by decide) rfl (Nat.le_of_ble_eq_true rfl) rfl (fun p e s m below meth c ls X hml hr hlocks hv hl => ?_)
  obtain ⟨hK, hW⟩ := hv
  obtain ⟨hx, hb, -, -⟩ := id X
  have hl : lv_has ls 6 [(0, .ref (ad 30 0)), (1, .int w1), (2, .int w2), (3, .int w3)] := hl
  have hS : va_S (zrg ad zsM) s.heap s.heap [] := va_S.rf
  generalize hAe : zrg ad zsM = A at hS ⊢
  have hA : ∀ q, zrg ad zsM q → A q := fun q h => by rw [← hAe]; exact h
  refine lv_aload_n hx hb dX10_packingOf_0 rfl (lv_at hl 0 rfl) ?_
  refine lv_iload_n hx hb dX10_packingOf_1 rfl (lv_at hl 1 rfl) ?_
  refine zcallRV (As := [.int w1]) (rest := []) X hml hK hW (ctX10_isCanopy l D cy ad μ w1) zmX10_isCanopy (by decide) m_1294 (zrecv hK (hW 30 0 rfl (by decide)) rfl) ⟨Nat.le_of_ble_eq_true rfl, Nat.le_of_ble_eq_true rfl⟩ ⟨Nat.zero_le _, Nat.zero_le _⟩ rfl hl.1 rfl (Nat.le_of_ble_eq_true rfl) dX10_packingOf_2 ?_
  refine zb_eq (tgt := 23) hx hb dX10_packingOf_5 (by decide) (fun b1 => ?_) (fun b1 => ?_)
  · refine lv_aload_n hx hb dX10_packingOf_23 rfl (lv_at hl 0 rfl) ?_
    refine lv_iconst (v := 1) hx hb dX10_packingOf_24 (by decide) ?_
    refine zcallMV (As := [.int 1]) (rest := []) X hml hK hW (ctX10_fails l D cy ad μ hj 1) zmX10_fails (by decide) m_1262 (zrecv hK (hW 30 0 rfl (by decide)) rfl) ⟨Nat.le_of_ble_eq_true rfl, Nat.le_of_ble_eq_true rfl⟩ ⟨Nat.zero_le _, Nat.zero_le _⟩ rfl hl.1 rfl (Nat.le_of_ble_eq_true rfl) dX10_packingOf_25 hS hA (fun H locs hW hsz hfr hS => ?_)
    exact zm_i hx hb hr hlocks (by rw [r_X10_packingOf, if_neg (by simp [y_pkr, b1])]; rfl) (by rw [f_X10_packingOf, show y_pkr μ w1 w2 w3 = 1 by simp [y_pkr, b1]]; exact hW) hS dX10_packingOf_28
  · refine lv_iload_n hx hb dX10_packingOf_8 rfl (lv_at hl 2 rfl) ?_
    refine lv_iconst (v := 0) hx hb dX10_packingOf_9 (by decide) ?_
    refine lv_aload_n hx hb dX10_packingOf_10 rfl (lv_at hl 0 rfl) ?_
    refine lv_iload_n hx hb dX10_packingOf_11 rfl (lv_at hl 1 rfl) ?_
    refine zcallRV (As := [.int w1]) (rest := [.int 0, .int w2]) X hml hK hW (ctX10_packsOf l D cy ad μ w1 hV.1.2.2.1) zmX10_packsOf (by decide) m_1447 (zrecv hK (hW 30 0 rfl (by decide)) rfl) ⟨Nat.le_of_ble_eq_true rfl, Nat.le_of_ble_eq_true rfl⟩ ⟨Nat.zero_le _, Nat.zero_le _⟩ rfl hl.1 rfl (Nat.le_of_ble_eq_true rfl) dX10_packingOf_12 ?_
    refine lv_iconst (v := 1) hx hb dX10_packingOf_15 (by decide) ?_
    refine lv_isub hx hb dX10_packingOf_16 ?_
    refine zcallRS (As := [.int w2, .int 0, .int ((nI (y_pks μ w1)) - 1)]) (rest := []) X hml hK trivial (ctX10_in l D cy w2 0 ((nI (y_pks μ w1)) - 1)) zmX10_in (by decide) m_1259 ⟨Nat.le_of_ble_eq_true rfl, Nat.le_of_ble_eq_true rfl⟩ ⟨Nat.zero_le _, Nat.zero_le _⟩ rfl hl.1 rfl (Nat.le_of_ble_eq_true rfl) dX10_packingOf_17 ?_
    refine zb_ne (tgt := 29) hx hb dX10_packingOf_20 (by decide) (fun b2 => ?_) (fun b2 => ?_)
    · have h86 := hV.1.2.2.1.2
      have hz9 := zct_le (fun i => decide (zA μ 55 0 i = w1)) (zn μ 841)
      obtain ⟨idx, hidx, hie⟩ := yin_n (n := y_pks μ w1) (by have : y_pks μ w1 ≤ zn μ 841 := hz9; omega) b2
      have hn9 : idx < zct (fun i => decide (zA μ 55 0 i = w1)) (zn μ 841) := hidx
      refine lv_iconst (v := 0) hx hb dX10_packingOf_29 (by decide) ?_
      refine lv_istore (lv' := [(4, .int 0), (0, .ref (ad 30 0)), (1, .int w1), (2, .int w2), (3, .int w3)]) hx hb dX10_packingOf_30 hl (by decide) rfl (fun ls hl => ?_)
      refine lv_iload_n hx hb dX10_packingOf_32 rfl (lv_at hl 3 rfl) ?_
      refine lv_istore (lv' := [(5, .int w2), (4, .int 0), (0, .ref (ad 30 0)), (1, .int w1), (2, .int w2), (3, .int w3)]) hx hb dX10_packingOf_33 hl (by decide) rfl (fun ls hl => ?_)
      have loop35 : ∀ (n : Nat) (k : Nat) (lf : Int32) (l9 : Nat) (ls : Array Slot), lv_has ls 6 [(0, .ref (ad 30 0)), (1, .int w1), (2, .int w2), (3, .int w3), (4, .int (nI k)), (5, .int lf)] → zn μ 841 + 1 - k < n → (k < zn μ 841) → (zct (fun i => decide (zA μ 55 0 i = w1)) k + l9 = idx) → (lf = nI l9) → W p l e (zrm 2) s m ([.ref (ad 30 0), .int w1, .int w2, .int w3] : List Value).toArray below meth c s.heap [] 0 0 (MQ below (zqM (some (.int (r_X10_packingOf μ w1 w2 w3))) (zW D cy ad zsM (f_X10_packingOf μ w1 w2 w3)) A) ([.ref (ad 30 0), .int w1, .int w2, .int w3] : List Value).toArray s 0 0 A) (F0 m 35 ls []) := by
        intro n
        induction n with
        | zero => intro k lf l9 ls hl hm hk hmm hlf; exact absurd hm (Nat.not_lt_zero _)
        | succ n ih35 =>
          intro k lf l9 ls hl hm hk hmm hlf
          refine lv_aload_n hx hb dX10_packingOf_35 rfl (lv_at hl 0 rfl) ?_
          refine zg8_24 X hK hW m_1130 dX10_packingOf_36 ?_
          refine lv_iload hx hb dX10_packingOf_39 (lv_at hl 4 rfl) ?_
          refine zan55 X hK hW (by omega) dX10_packingOf_41 ?_
          refine lv_iload_n hx hb dX10_packingOf_42 rfl (lv_at hl 1 rfl) ?_
          refine lv_icmp_ne (tgt := 51) hx hb dX10_packingOf_43 (by decide) (fun b3 => ?_) (fun b3 => ?_)
          · refine lv_iload hx hb dX10_packingOf_51 (lv_at hl 5 rfl) ?_
            refine lv_aload_n hx hb dX10_packingOf_53 rfl (lv_at hl 0 rfl) ?_
            refine zg8_24 X hK hW m_1130 dX10_packingOf_54 ?_
            refine lv_iload hx hb dX10_packingOf_57 (lv_at hl 4 rfl) ?_
            refine zan55 X hK hW (by omega) dX10_packingOf_59 ?_
            refine lv_iload_n hx hb dX10_packingOf_60 rfl (lv_at hl 1 rfl) ?_
            refine lv_icmp_ne (tgt := 68) hx hb dX10_packingOf_61 (by decide) (fun b4 => ?_) (fun h => absurd h b3)
            refine lv_iconst (v := 0) hx hb dX10_packingOf_68 (by decide) ?_
            refine lv_isub hx hb dX10_packingOf_69 ?_
            refine lv_istore (lv' := [(5, .int (lf - 0)), (0, .ref (ad 30 0)), (1, .int w1), (2, .int w2), (3, .int w3), (4, .int (nI k))]) hx hb dX10_packingOf_70 hl (by decide) rfl (fun ls hl => ?_)
            refine lv_iinc (v := nI (k + 1)) (lv' := [(4, .int (nI (k + 1))), (5, .int (lf - 0)), (0, .ref (ad 30 0)), (1, .int w1), (2, .int w2), (3, .int w3)]) hx hb dX10_packingOf_72 hl (k := 5) rfl (nI_1 k) (by decide) rfl (fun ls hl => ?_)
            refine lv_goto (tgt := 35) hx hb dX10_packingOf_75 (by decide) ?_
            exact ih35 (k + 1) (lf - 0) l9 _ (lv_sub hl [2, 3, 4, 5, 0, 1] rfl) (by omega) (pk_st hn9 hmm (by rw [zct, if_neg (by simp [b3])]; omega)) (by rw [zct, if_neg (by simp [b3]), Nat.add_zero]; exact hmm) (by rw [hlf]; exact Int32.sub_zero _)
          · refine lv_iload hx hb dX10_packingOf_46 (lv_at hl 5 rfl) ?_
            refine lv_if_le (tgt := 78) hx hb dX10_packingOf_48 (by decide) (fun b5 => ?_) (fun b5 => ?_)
            · have hl0 := pk_l0 (by omega) hlf b5
              have hnum := y_num_at (w2 := w2) hk h86 b3 (by rw [hie, ← hmm, hl0, Nat.add_zero])
              refine lv_iload_n hx hb dX10_packingOf_78 rfl (lv_at hl 3 rfl) ?_
              refine lv_bipush (v := 104) hx hb dX10_packingOf_79 (by decide) ?_
              refine lv_icmp_ne (tgt := 96) hx hb dX10_packingOf_81 (by decide) (fun b6 => ?_) (fun b6 => ?_)
              · refine lv_iload_n hx hb dX10_packingOf_96 rfl (lv_at hl 3 rfl) ?_
                refine lv_bipush (v := 100) hx hb dX10_packingOf_97 (by decide) ?_
                refine lv_icmp_ne (tgt := 114) hx hb dX10_packingOf_99 (by decide) (fun b7 => ?_) (fun b7 => ?_)
                · refine lv_iload_n hx hb dX10_packingOf_114 rfl (lv_at hl 3 rfl) ?_
                  refine lv_bipush (v := 48) hx hb dX10_packingOf_115 (by decide) ?_
                  refine lv_bipush (v := 52) hx hb dX10_packingOf_117 (by decide) ?_
                  refine zcallRS (As := [.int w3, .int 48, .int 52]) (rest := []) X hml hK trivial (ctX10_in l D cy w3 48 52) zmX10_in (by decide) m_1259 ⟨Nat.le_of_ble_eq_true rfl, Nat.le_of_ble_eq_true rfl⟩ ⟨Nat.zero_le _, Nat.zero_le _⟩ rfl hl.1 rfl (Nat.le_of_ble_eq_true rfl) dX10_packingOf_119 ?_
                  refine zb_eq (tgt := 146) hx hb dX10_packingOf_122 (by decide) (fun b8 => ?_) (fun b8 => ?_)
                  · refine lv_aload_n hx hb dX10_packingOf_146 rfl (lv_at hl 0 rfl) ?_
                    refine lv_iconst (v := 2) hx hb dX10_packingOf_147 (by decide) ?_
                    refine zcallMV (As := [.int 2]) (rest := []) X hml hK hW (ctX10_fails l D cy ad μ hj 2) zmX10_fails (by decide) m_1262 (zrecv hK (hW 30 0 rfl (by decide)) rfl) ⟨Nat.le_of_ble_eq_true rfl, Nat.le_of_ble_eq_true rfl⟩ ⟨Nat.zero_le _, Nat.zero_le _⟩ rfl hl.1 rfl (Nat.le_of_ble_eq_true rfl) dX10_packingOf_148 hS hA (fun H locs hW hsz hfr hS => ?_)
                    exact zm_i hx hb hr hlocks (by rw [r_X10_packingOf, if_neg (by simp [y_pkr, b1, b2, b3, b5, Int32.not_lt.mpr b5, b6, Ne.symm b6, b7, Ne.symm b7, b8])]; rfl) (by rw [f_X10_packingOf, show y_pkr μ w1 w2 w3 = 2 by simp [y_pkr, b1, b2, b3, b5, Int32.not_lt.mpr b5, b6, Ne.symm b6, b7, Ne.symm b7, b8]]; exact hW) hS dX10_packingOf_151
                  · refine lv_aload_n hx hb dX10_packingOf_125 rfl (lv_at hl 0 rfl) ?_
                    refine lv_aload_n hx hb dX10_packingOf_126 rfl (lv_at hl 0 rfl) ?_
                    refine zg8_27 X hK hW m_1133 dX10_packingOf_127 ?_
                    refine lv_iconst (v := 5) hx hb dX10_packingOf_130 (by decide) ?_
                    refine lv_iload hx hb dX10_packingOf_131 (lv_at hl 4 rfl) ?_
                    refine lv_imul hx hb dX10_packingOf_133 ?_
                    refine lv_iload_n hx hb dX10_packingOf_134 rfl (lv_at hl 3 rfl) ?_
                    refine lv_iadd hx hb dX10_packingOf_135 ?_
                    refine lv_bipush (v := 48) hx hb dX10_packingOf_136 (by decide) ?_
                    refine lv_isub hx hb dX10_packingOf_138 ?_
                    refine za58 X hK hW (y_w3 b8 (by omega)) dX10_packingOf_139 ?_
                    refine zcallMV (As := [.int (zA μ 58 0 (((5 * (nI k)) + w3) - 48).toNatClampNeg)]) (rest := []) X hml hK hW (ctX10_tell l D cy ad μ hj (zA μ 58 0 (((5 * (nI k)) + w3) - 48).toNatClampNeg)) zmX10_tell (by decide) m_1266 (zrecv hK (hW 30 0 rfl (by decide)) rfl) ⟨Nat.le_of_ble_eq_true rfl, Nat.le_of_ble_eq_true rfl⟩ ⟨Nat.zero_le _, Nat.zero_le _⟩ rfl hl.1 rfl (Nat.le_of_ble_eq_true rfl) dX10_packingOf_140 hS hA (fun H locs hW hsz hfr hS => ?_)
                    refine lv_goto (tgt := 151) hx hb dX10_packingOf_143 (by decide) ?_
                    exact zm_i hx hb hr hlocks (by rw [r_X10_packingOf, if_pos (by simp [y_pkr, b1, b2, b3, b5, Int32.not_lt.mpr b5, b6, Ne.symm b6, b7, Ne.symm b7, b8]), if_neg b6, if_neg b7, hnum]; rfl) (by rw [f_X10_packingOf, show y_pkr μ w1 w2 w3 = 0 by simp [y_pkr, b1, b2, b3, b5, Int32.not_lt.mpr b5, b6, Ne.symm b6, b7, Ne.symm b7, b8]]; exact hW) hS dX10_packingOf_151
                · refine lv_aload_n hx hb dX10_packingOf_102 rfl (lv_at hl 0 rfl) ?_
                  refine lv_aload_n hx hb dX10_packingOf_103 rfl (lv_at hl 0 rfl) ?_
                  refine zg8_26 X hK hW m_1132 dX10_packingOf_104 ?_
                  refine lv_iload hx hb dX10_packingOf_107 (lv_at hl 4 rfl) ?_
                  refine zan57 X hK hW (by omega) dX10_packingOf_109 ?_
                  refine zcallMV (As := [.int (zA μ 57 0 k)]) (rest := []) X hml hK hW (ctX10_tell l D cy ad μ hj (zA μ 57 0 k)) zmX10_tell (by decide) m_1266 (zrecv hK (hW 30 0 rfl (by decide)) rfl) ⟨Nat.le_of_ble_eq_true rfl, Nat.le_of_ble_eq_true rfl⟩ ⟨Nat.zero_le _, Nat.zero_le _⟩ rfl hl.1 rfl (Nat.le_of_ble_eq_true rfl) dX10_packingOf_110 hS hA (fun H locs hW hsz hfr hS => ?_)
                  exact zm_i hx hb hr hlocks (by rw [r_X10_packingOf, if_pos (by simp [y_pkr, b1, b2, b3, b5, Int32.not_lt.mpr b5, b6, Ne.symm b6, b7]), if_neg b6, if_pos b7, hnum, nI_clamp (by omega)]; rfl) (by rw [f_X10_packingOf, show y_pkr μ w1 w2 w3 = 0 by simp [y_pkr, b1, b2, b3, b5, Int32.not_lt.mpr b5, b6, Ne.symm b6, b7]]; exact hW) hS dX10_packingOf_113
              · refine lv_aload_n hx hb dX10_packingOf_84 rfl (lv_at hl 0 rfl) ?_
                refine lv_aload_n hx hb dX10_packingOf_85 rfl (lv_at hl 0 rfl) ?_
                refine zg8_25 X hK hW m_1131 dX10_packingOf_86 ?_
                refine lv_iload hx hb dX10_packingOf_89 (lv_at hl 4 rfl) ?_
                refine zan56 X hK hW (by omega) dX10_packingOf_91 ?_
                refine zcallMV (As := [.int (zA μ 56 0 k)]) (rest := []) X hml hK hW (ctX10_tell l D cy ad μ hj (zA μ 56 0 k)) zmX10_tell (by decide) m_1266 (zrecv hK (hW 30 0 rfl (by decide)) rfl) ⟨Nat.le_of_ble_eq_true rfl, Nat.le_of_ble_eq_true rfl⟩ ⟨Nat.zero_le _, Nat.zero_le _⟩ rfl hl.1 rfl (Nat.le_of_ble_eq_true rfl) dX10_packingOf_92 hS hA (fun H locs hW hsz hfr hS => ?_)
                exact zm_i hx hb hr hlocks (by rw [r_X10_packingOf, if_pos (by simp [y_pkr, b1, b2, b3, b5, Int32.not_lt.mpr b5, b6]), if_pos b6, hnum, nI_clamp (by omega)]; rfl) (by rw [f_X10_packingOf, show y_pkr μ w1 w2 w3 = 0 by simp [y_pkr, b1, b2, b3, b5, Int32.not_lt.mpr b5, b6]]; exact hW) hS dX10_packingOf_95
            · refine lv_iload hx hb dX10_packingOf_51 (lv_at hl 5 rfl) ?_
              refine lv_aload_n hx hb dX10_packingOf_53 rfl (lv_at hl 0 rfl) ?_
              refine zg8_24 X hK hW m_1130 dX10_packingOf_54 ?_
              refine lv_iload hx hb dX10_packingOf_57 (lv_at hl 4 rfl) ?_
              refine zan55 X hK hW (by omega) dX10_packingOf_59 ?_
              refine lv_iload_n hx hb dX10_packingOf_60 rfl (lv_at hl 1 rfl) ?_
              refine lv_icmp_ne (tgt := 68) hx hb dX10_packingOf_61 (by decide) (fun h => absurd h (not_not_intro b3)) (fun b9 => ?_)
              refine lv_iconst (v := 1) hx hb dX10_packingOf_64 (by decide) ?_
              refine lv_goto (tgt := 69) hx hb dX10_packingOf_65 (by decide) ?_
              refine lv_isub hx hb dX10_packingOf_69 ?_
              refine lv_istore (lv' := [(5, .int (lf - 1)), (0, .ref (ad 30 0)), (1, .int w1), (2, .int w2), (3, .int w3), (4, .int (nI k))]) hx hb dX10_packingOf_70 hl (by decide) rfl (fun ls hl => ?_)
              refine lv_iinc (v := nI (k + 1)) (lv' := [(4, .int (nI (k + 1))), (5, .int (lf - 1)), (0, .ref (ad 30 0)), (1, .int w1), (2, .int w2), (3, .int w3)]) hx hb dX10_packingOf_72 hl (k := 5) rfl (nI_1 k) (by decide) rfl (fun ls hl => ?_)
              refine lv_goto (tgt := 35) hx hb dX10_packingOf_75 (by decide) ?_
              exact ih35 (k + 1) (lf - 1) (l9 - 1) _ (lv_sub hl [2, 3, 4, 5, 0, 1] rfl) (by omega) (pk_st hn9 hmm (by rw [zct, if_pos (by simp [b3])]; have := pk_l9 hlf b5; omega)) (by rw [zct, if_pos (by simp [b3])]; have := pk_l9 hlf b5; omega) (by rw [hlf]; exact pk_lf (pk_l9 hlf b5))
      exact loop35 _ 0 w2 idx _ (lv_sub hl [2, 3, 4, 5, 1, 0] rfl) (Nat.lt_succ_self _) (by have := zct_le (fun i => decide (zA μ 55 0 i = w1)) (zn μ 841); omega) (Nat.zero_add _) hie
    · refine lv_aload_n hx hb dX10_packingOf_23 rfl (lv_at hl 0 rfl) ?_
      refine lv_iconst (v := 1) hx hb dX10_packingOf_24 (by decide) ?_
      refine zcallMV (As := [.int 1]) (rest := []) X hml hK hW (ctX10_fails l D cy ad μ hj 1) zmX10_fails (by decide) m_1262 (zrecv hK (hW 30 0 rfl (by decide)) rfl) ⟨Nat.le_of_ble_eq_true rfl, Nat.le_of_ble_eq_true rfl⟩ ⟨Nat.zero_le _, Nat.zero_le _⟩ rfl hl.1 rfl (Nat.le_of_ble_eq_true rfl) dX10_packingOf_25 hS hA (fun H locs hW hsz hfr hS => ?_)
      exact zm_i hx hb hr hlocks (by rw [r_X10_packingOf, if_neg (by simp [y_pkr, b1, b2])]; rfl) (by rw [f_X10_packingOf, show y_pkr μ w1 w2 w3 = 1 by simp [y_pkr, b1, b2]]; exact hW) hS dX10_packingOf_28
