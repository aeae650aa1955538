def y_shr (μ : zS) (w1 : Int32) : Nat := zct (fun o => !decide (nI o = w1) && zany (fun i => decide (zA μ 55 0 i = w1) && y_shH μ (nI o) (nI i)) (zn μ 841)) (zn μ 840)
def f_X10_sharers (μ : zS) (w1 : Int32) : zS := zpI μ 838 0 (if y_has μ 840 w1 = true then 0 else 1)
def r_X10_sharers (μ : zS) (w1 : Int32) : Int32 := if y_has μ 840 w1 = true then nI (y_shr μ w1) else 0
theorem bsh2 {x y : Int32} {bb : Bool} {f : Nat → Bool} {i n : Nat} (hz : x = y → bb = false) (hb : ¬ x = y → bb = zany f i) (h : x = y ∨ i = n) : bb = (!decide (x = y) && zany f n) := by
  by_cases g : x = y
  · rw [hz g, decide_eq_true g]; rfl
  · rw [hb g, decide_eq_false g]
    rcases h with h | h
    · exact absurd h g
    · rw [h]; rfl
theorem zmX10_sharers : zmV yX10_sharers RX10 cX10_sharers 6 (some .int) 1 := ⟨m_1460, m_1461, m_9, m_1462, rfl, by decide, by decide, by decide +kernel⟩
set_option maxRecDepth 100000 in
set_option maxHeartbeats 4000000 in
theorem ctX10_sharers (l : Launch) (D : va_G) (cy : Nat → ClassId) (ad : Nat → Nat → Nat) (μ : zS) (hj : zinj ad zsM) (w1 : Int32) (hV : yV μ) : Met l yX10_sharers (zw yX10_sharers cX10_sharers 6 (some .int)) (zrm 2) (va_Pc [.ref (ad 30 0), .int w1] (zB D cy (zW D cy ad zsM μ))) (zqM (some (.int (r_X10_sharers μ w1))) (zW D cy ad zsM (f_X10_sharers μ w1)) (zrg ad zsM)) 0 0 (zrg ad zsM) := by
  refine zmet (by decide) rfl (Nat.le_of_ble_eq_true rfl) rfl (fun p e s m below meth c ls X hml hr hlocks hv hl => ?_)
  obtain ⟨hK, hW⟩ := hv
  obtain ⟨hx, hb, -, -⟩ := id X
  have hl : lv_has ls 6 [(0, .ref (ad 30 0)), (1, .int w1)] := hl
  have hS : va_S (zrg ad zsM) s.heap s.heap [] := va_S.rf
  generalize hAe : zrg ad zsM = A at hS ⊢
  have hA : ∀ q, zrg ad zsM q → A q := fun q h => by rw [← hAe]; exact h
  refine lv_aload_n hx hb dX10_sharers_0 rfl (lv_at hl 0 rfl) ?_
  refine lv_iload_n hx hb dX10_sharers_1 rfl (lv_at hl 1 rfl) ?_
  refine zcallRV (As := [.int w1]) (rest := []) X hml hK hW (ctX10_isCanopy l D cy ad μ w1) zmX10_isCanopy (by decide) m_1294 (zrecv hK (hW 30 0 rfl (by decide)) rfl) ⟨Nat.le_of_ble_eq_true rfl, Nat.le_of_ble_eq_true rfl⟩ ⟨Nat.zero_le _, Nat.zero_le _⟩ rfl hl.1 rfl (Nat.le_of_ble_eq_true rfl) dX10_sharers_2 ?_
  refine zb_ne (tgt := 14) hx hb dX10_sharers_5 (by decide) (fun b1 => ?_) (fun b1 => ?_)
  · refine lv_iconst (v := 0) hx hb dX10_sharers_14 (by decide) ?_
    refine lv_istore_n (lv' := [(2, .int 0), (0, .ref (ad 30 0)), (1, .int w1)]) hx hb dX10_sharers_15 rfl hl (by decide) rfl (fun ls hl => ?_)
    refine lv_iconst (v := 0) hx hb dX10_sharers_16 (by decide) ?_
    refine lv_istore_n (lv' := [(3, .int 0), (2, .int 0), (0, .ref (ad 30 0)), (1, .int w1)]) hx hb dX10_sharers_17 rfl hl (by decide) rfl (fun ls hl => ?_)
    have loop18 : ∀ (n : Nat) (k : Nat) (a : Int32) (ls : Array Slot), lv_has ls 6 [(0, .ref (ad 30 0)), (1, .int w1), (2, .int a), (3, .int (nI k))] → zn μ 840 + 1 - k < n → (k ≤ zn μ 840) → (a = nI (zct (fun o => !decide (nI o = w1) && zany (fun i => decide (zA μ 55 0 i = w1) && y_shH μ (nI o) (nI i)) (zn μ 841)) k)) → W p l e (zrm 2) s m ([.ref (ad 30 0), .int w1] : List Value).toArray below meth c s.heap [] 0 0 (MQ below (zqM (some (.int (r_X10_sharers μ w1))) (zW D cy ad zsM (f_X10_sharers μ w1)) A) ([.ref (ad 30 0), .int w1] : List Value).toArray s 0 0 A) (F0 m 18 ls []) := by
      intro n
      induction n with
      | zero => intro k a ls hl hm hk ha; exact absurd hm (Nat.not_lt_zero _)
      | succ n ih18 =>
        intro k a ls hl hm hk ha
        refine lv_iload_n hx hb dX10_sharers_18 rfl (lv_at hl 3 rfl) ?_
        refine lv_aload_n hx hb dX10_sharers_19 rfl (lv_at hl 0 rfl) ?_
        refine zg8_40 X hK hW m_1146 dX10_sharers_20 ?_
        refine lv_icmp_ge (tgt := 104) hx hb dX10_sharers_23 (by decide) (fun b2 => ?_) (fun b2 => ?_)
        · refine lv_aload_n hx hb dX10_sharers_104 rfl (lv_at hl 0 rfl) ?_
          refine lv_iload_n hx hb dX10_sharers_105 rfl (lv_at hl 2 rfl) ?_
          refine zcallMV (As := [.int a]) (rest := []) X hml hK hW (ctX10_tell l D cy ad μ hj a) zmX10_tell (by decide) m_1266 (zrecv hK (hW 30 0 rfl (by decide)) rfl) ⟨Nat.le_of_ble_eq_true rfl, Nat.le_of_ble_eq_true rfl⟩ ⟨Nat.zero_le _, Nat.zero_le _⟩ rfl hl.1 rfl (Nat.le_of_ble_eq_true rfl) dX10_sharers_106 hS hA (fun H locs hW hsz hfr hS => ?_)
          exact zm_i hx hb hr hlocks (by rw [r_X10_sharers, if_pos b1]; show a = _; rw [ha, zge_of hV.1.2.1 (by decide) hk b2]; rfl) (by rw [f_X10_sharers, if_pos b1]; exact hW) hS dX10_sharers_109
        · have hlt : k < zn μ 840 := zlt_of hV.1.2.1 (by decide) hk b2
          have hltN := Nat.lt_of_lt_of_le hlt hV.1.2.1.2
          refine lv_iconst (v := 0) hx hb dX10_sharers_26 (by decide) ?_
          refine lv_istore (lv' := [(4, .int 0), (0, .ref (ad 30 0)), (1, .int w1), (2, .int a), (3, .int (nI k))]) hx hb dX10_sharers_27 hl (by decide) rfl (fun ls hl => ?_)
          refine lv_iconst (v := 0) hx hb dX10_sharers_29 (by decide) ?_
          refine lv_istore (lv' := [(5, .int 0), (4, .int 0), (0, .ref (ad 30 0)), (1, .int w1), (2, .int a), (3, .int (nI k))]) hx hb dX10_sharers_30 hl (by decide) rfl (fun ls hl => ?_)
          have loop32 : ∀ (n : Nat) (i : Nat) (bb : Bool) (ls : Array Slot), lv_has ls 6 [(0, .ref (ad 30 0)), (1, .int w1), (2, .int a), (3, .int (nI k)), (4, .int (bI bb)), (5, .int (nI i))] → zn μ 841 + 1 - i < n → (i ≤ zn μ 841) → (nI k = w1 → bb = false) → (¬ nI k = w1 → bb = zany (fun i => decide (zA μ 55 0 i = w1) && y_shH μ (nI k) (nI i)) i) → W p l e (zrm 2) s m ([.ref (ad 30 0), .int w1] : List Value).toArray below meth c s.heap [] 0 0 (MQ below (zqM (some (.int (r_X10_sharers μ w1))) (zW D cy ad zsM (f_X10_sharers μ w1)) A) ([.ref (ad 30 0), .int w1] : List Value).toArray s 0 0 A) (F0 m 32 ls []) := by
            intro n
            induction n with
            | zero => intro i bb ls hl hm hi5 hz hbb; exact absurd hm (Nat.not_lt_zero _)
            | succ n ih32 =>
              intro i bb ls hl hm hi5 hz hbb
              refine lv_iload hx hb dX10_sharers_32 (lv_at hl 5 rfl) ?_
              refine lv_aload_n hx hb dX10_sharers_34 rfl (lv_at hl 0 rfl) ?_
              refine zg8_41 X hK hW m_1147 dX10_sharers_35 ?_
              refine lv_icmp_ge (tgt := 85) hx hb dX10_sharers_38 (by decide) (fun b3 => ?_) (fun b3 => ?_)
              · have hP := bsh2 (n := zn μ 841) hz hbb (Or.inr (zge_of hV.1.2.2.1 (by decide) hi5 b3))
                refine lv_iload_n hx hb dX10_sharers_85 rfl (lv_at hl 2 rfl) ?_
                refine lv_iload hx hb dX10_sharers_86 (lv_at hl 4 rfl) ?_
                refine zb_eq (tgt := 95) hx hb dX10_sharers_88 (by decide) (fun b4 => ?_) (fun b4 => ?_)
                · refine lv_iconst (v := 0) hx hb dX10_sharers_95 (by decide) ?_
                  refine lv_iadd hx hb dX10_sharers_96 ?_
                  refine lv_istore_n (lv' := [(2, .int (a + 0)), (0, .ref (ad 30 0)), (1, .int w1), (3, .int (nI k)), (4, .int (bI bb)), (5, .int (nI i))]) hx hb dX10_sharers_97 rfl hl (by decide) rfl (fun ls hl => ?_)
                  refine lv_iinc (v := nI (k + 1)) (lv' := [(3, .int (nI (k + 1))), (2, .int (a + 0)), (0, .ref (ad 30 0)), (1, .int w1), (4, .int (bI bb)), (5, .int (nI i))]) hx hb dX10_sharers_98 hl (k := 3) rfl (nI_1 k) (by decide) rfl (fun ls hl => ?_)
                  refine lv_goto (tgt := 18) hx hb dX10_sharers_101 (by decide) ?_
                  exact ih18 (k + 1) (a + 0) _ (lv_sub hl [2, 3, 1, 0] rfl) (by omega) hlt (by rw [ha, zct, if_neg (fun z => absurd (z.symm.trans (hP.symm.trans b4)) (by decide)), Nat.add_zero]; exact Int32.add_zero _)
                · refine lv_iconst (v := 1) hx hb dX10_sharers_91 (by decide) ?_
                  refine lv_goto (tgt := 96) hx hb dX10_sharers_92 (by decide) ?_
                  refine lv_iadd hx hb dX10_sharers_96 ?_
                  refine lv_istore_n (lv' := [(2, .int (a + 1)), (0, .ref (ad 30 0)), (1, .int w1), (3, .int (nI k)), (4, .int (bI bb)), (5, .int (nI i))]) hx hb dX10_sharers_97 rfl hl (by decide) rfl (fun ls hl => ?_)
                  refine lv_iinc (v := nI (k + 1)) (lv' := [(3, .int (nI (k + 1))), (2, .int (a + 1)), (0, .ref (ad 30 0)), (1, .int w1), (4, .int (bI bb)), (5, .int (nI i))]) hx hb dX10_sharers_98 hl (k := 3) rfl (nI_1 k) (by decide) rfl (fun ls hl => ?_)
                  refine lv_goto (tgt := 18) hx hb dX10_sharers_101 (by decide) ?_
                  exact ih18 (k + 1) (a + 1) _ (lv_sub hl [2, 3, 1, 0] rfl) (by omega) hlt (by rw [ha, zct, if_pos (hP.symm.trans b4), ← nI_1])
              · have hlti : i < zn μ 841 := zlt_of hV.1.2.2.1 (by decide) hi5 b3
                have hltiN := Nat.lt_of_lt_of_le hlti hV.1.2.2.1.2
                refine lv_iload_n hx hb dX10_sharers_41 rfl (lv_at hl 3 rfl) ?_
                refine lv_iload_n hx hb dX10_sharers_42 rfl (lv_at hl 1 rfl) ?_
                refine lv_icmp_eq (tgt := 85) hx hb dX10_sharers_43 (by decide) (fun b5 => ?_) (fun b5 => ?_)
                · have hP := bsh2 (n := zn μ 841) hz hbb (Or.inl b5)
                  refine lv_iload_n hx hb dX10_sharers_85 rfl (lv_at hl 2 rfl) ?_
                  refine lv_iload hx hb dX10_sharers_86 (lv_at hl 4 rfl) ?_
                  refine zb_eq (tgt := 95) hx hb dX10_sharers_88 (by decide) (fun b6 => ?_) (fun b6 => ?_)
                  · refine lv_iconst (v := 0) hx hb dX10_sharers_95 (by decide) ?_
                    refine lv_iadd hx hb dX10_sharers_96 ?_
                    refine lv_istore_n (lv' := [(2, .int (a + 0)), (0, .ref (ad 30 0)), (1, .int w1), (3, .int (nI k)), (4, .int (bI bb)), (5, .int (nI i))]) hx hb dX10_sharers_97 rfl hl (by decide) rfl (fun ls hl => ?_)
                    refine lv_iinc (v := nI (k + 1)) (lv' := [(3, .int (nI (k + 1))), (2, .int (a + 0)), (0, .ref (ad 30 0)), (1, .int w1), (4, .int (bI bb)), (5, .int (nI i))]) hx hb dX10_sharers_98 hl (k := 3) rfl (nI_1 k) (by decide) rfl (fun ls hl => ?_)
                    refine lv_goto (tgt := 18) hx hb dX10_sharers_101 (by decide) ?_
                    exact ih18 (k + 1) (a + 0) _ (lv_sub hl [2, 3, 1, 0] rfl) (by omega) hlt (by rw [ha, zct, if_neg (fun z => absurd (z.symm.trans (hP.symm.trans b6)) (by decide)), Nat.add_zero]; exact Int32.add_zero _)
                  · refine lv_iconst (v := 1) hx hb dX10_sharers_91 (by decide) ?_
                    refine lv_goto (tgt := 96) hx hb dX10_sharers_92 (by decide) ?_
                    refine lv_iadd hx hb dX10_sharers_96 ?_
                    refine lv_istore_n (lv' := [(2, .int (a + 1)), (0, .ref (ad 30 0)), (1, .int w1), (3, .int (nI k)), (4, .int (bI bb)), (5, .int (nI i))]) hx hb dX10_sharers_97 rfl hl (by decide) rfl (fun ls hl => ?_)
                    refine lv_iinc (v := nI (k + 1)) (lv' := [(3, .int (nI (k + 1))), (2, .int (a + 1)), (0, .ref (ad 30 0)), (1, .int w1), (4, .int (bI bb)), (5, .int (nI i))]) hx hb dX10_sharers_98 hl (k := 3) rfl (nI_1 k) (by decide) rfl (fun ls hl => ?_)
                    refine lv_goto (tgt := 18) hx hb dX10_sharers_101 (by decide) ?_
                    exact ih18 (k + 1) (a + 1) _ (lv_sub hl [2, 3, 1, 0] rfl) (by omega) hlt (by rw [ha, zct, if_pos (hP.symm.trans b6), ← nI_1])
                · refine lv_iload hx hb dX10_sharers_46 (lv_at hl 4 rfl) ?_
                  refine zb_ne (tgt := 72) hx hb dX10_sharers_48 (by decide) (fun b7 => ?_) (fun b7 => ?_)
                  · refine lv_iconst (v := 1) hx hb dX10_sharers_72 (by decide) ?_
                    refine lv_goto (tgt := 77) hx hb dX10_sharers_73 (by decide) ?_
                    refine lv_istore (lv' := [(4, .int 1), (0, .ref (ad 30 0)), (1, .int w1), (2, .int a), (3, .int (nI k)), (5, .int (nI i))]) hx hb dX10_sharers_77 hl (by decide) rfl (fun ls hl => ?_)
                    refine lv_iinc (v := nI (i + 1)) (lv' := [(5, .int (nI (i + 1))), (4, .int 1), (0, .ref (ad 30 0)), (1, .int w1), (2, .int a), (3, .int (nI k))]) hx hb dX10_sharers_79 hl (k := 5) rfl (nI_1 i) (by decide) rfl (fun ls hl => ?_)
                    refine lv_goto (tgt := 32) hx hb dX10_sharers_82 (by decide) ?_
                    exact ih32 (i + 1) true _ (lv_sub hl [2, 3, 4, 5, 1, 0] rfl) (by omega) hlti (fun h => absurd h b5) (fun _ => by rw [zany, ← hbb b5]; simp [b1, b2, Int32.not_le.mp b2, b3, Int32.not_le.mp b3, b5, Ne.symm b5, b7])
                  · refine lv_aload_n hx hb dX10_sharers_51 rfl (lv_at hl 0 rfl) ?_
                    refine zg8_24 X hK hW m_1130 dX10_sharers_52 ?_
                    refine lv_iload hx hb dX10_sharers_55 (lv_at hl 5 rfl) ?_
                    refine zan55 X hK hW (by omega) dX10_sharers_57 ?_
                    refine lv_iload_n hx hb dX10_sharers_58 rfl (lv_at hl 1 rfl) ?_
                    refine lv_icmp_ne (tgt := 76) hx hb dX10_sharers_59 (by decide) (fun b8 => ?_) (fun b8 => ?_)
                    · refine lv_iconst (v := 0) hx hb dX10_sharers_76 (by decide) ?_
                      refine lv_istore (lv' := [(4, .int 0), (0, .ref (ad 30 0)), (1, .int w1), (2, .int a), (3, .int (nI k)), (5, .int (nI i))]) hx hb dX10_sharers_77 hl (by decide) rfl (fun ls hl => ?_)
                      refine lv_iinc (v := nI (i + 1)) (lv' := [(5, .int (nI (i + 1))), (4, .int 0), (0, .ref (ad 30 0)), (1, .int w1), (2, .int a), (3, .int (nI k))]) hx hb dX10_sharers_79 hl (k := 5) rfl (nI_1 i) (by decide) rfl (fun ls hl => ?_)
                      refine lv_goto (tgt := 32) hx hb dX10_sharers_82 (by decide) ?_
                      exact ih32 (i + 1) false _ (lv_sub hl [2, 3, 4, 5, 1, 0] rfl) (by omega) hlti (fun h => absurd h b5) (fun _ => by rw [zany, ← hbb b5]; simp [b1, b2, Int32.not_le.mp b2, b3, Int32.not_le.mp b3, b5, Ne.symm b5, b7, b8, Ne.symm b8])
                    · refine lv_aload_n hx hb dX10_sharers_62 rfl (lv_at hl 0 rfl) ?_
                      refine lv_iload_n hx hb dX10_sharers_63 rfl (lv_at hl 3 rfl) ?_
                      refine lv_iload hx hb dX10_sharers_64 (lv_at hl 5 rfl) ?_
                      refine zcallRV (As := [.int (nI k), .int (nI i)]) (rest := []) X hml hK hW (ctX10_sharesHook l D cy ad μ (nI k) (nI i) hV.1.2.2.1 (fun _ => vp_in_nI (by omega) (by decide))) zmX10_sharesHook (by decide) m_1362 (zrecv hK (hW 30 0 rfl (by decide)) rfl) ⟨Nat.le_of_ble_eq_true rfl, Nat.le_of_ble_eq_true rfl⟩ ⟨Nat.zero_le _, Nat.zero_le _⟩ rfl hl.1 rfl (Nat.le_of_ble_eq_true rfl) dX10_sharers_66 ?_
                      refine zb_eq (tgt := 76) hx hb dX10_sharers_69 (by decide) (fun b9 => ?_) (fun b9 => ?_)
                      · refine lv_iconst (v := 0) hx hb dX10_sharers_76 (by decide) ?_
                        refine lv_istore (lv' := [(4, .int 0), (0, .ref (ad 30 0)), (1, .int w1), (2, .int a), (3, .int (nI k)), (5, .int (nI i))]) hx hb dX10_sharers_77 hl (by decide) rfl (fun ls hl => ?_)
                        refine lv_iinc (v := nI (i + 1)) (lv' := [(5, .int (nI (i + 1))), (4, .int 0), (0, .ref (ad 30 0)), (1, .int w1), (2, .int a), (3, .int (nI k))]) hx hb dX10_sharers_79 hl (k := 5) rfl (nI_1 i) (by decide) rfl (fun ls hl => ?_)
                        refine lv_goto (tgt := 32) hx hb dX10_sharers_82 (by decide) ?_
                        exact ih32 (i + 1) false _ (lv_sub hl [2, 3, 4, 5, 1, 0] rfl) (by omega) hlti (fun h => absurd h b5) (fun _ => by rw [zany, ← hbb b5]; simp [b1, b2, Int32.not_le.mp b2, b3, Int32.not_le.mp b3, b5, Ne.symm b5, b7, b8, b9])
                      · refine lv_iconst (v := 1) hx hb dX10_sharers_72 (by decide) ?_
                        refine lv_goto (tgt := 77) hx hb dX10_sharers_73 (by decide) ?_
                        refine lv_istore (lv' := [(4, .int 1), (0, .ref (ad 30 0)), (1, .int w1), (2, .int a), (3, .int (nI k)), (5, .int (nI i))]) hx hb dX10_sharers_77 hl (by decide) rfl (fun ls hl => ?_)
                        refine lv_iinc (v := nI (i + 1)) (lv' := [(5, .int (nI (i + 1))), (4, .int 1), (0, .ref (ad 30 0)), (1, .int w1), (2, .int a), (3, .int (nI k))]) hx hb dX10_sharers_79 hl (k := 5) rfl (nI_1 i) (by decide) rfl (fun ls hl => ?_)
                        refine lv_goto (tgt := 32) hx hb dX10_sharers_82 (by decide) ?_
                        exact ih32 (i + 1) true _ (lv_sub hl [2, 3, 4, 5, 1, 0] rfl) (by omega) hlti (fun h => absurd h b5) (fun _ => by rw [zany, ← hbb b5]; simp [b1, b2, Int32.not_le.mp b2, b3, Int32.not_le.mp b3, b5, Ne.symm b5, b7, b8, b9])
          exact loop32 _ 0 false _ (lv_sub hl [2, 3, 4, 5, 1, 0] rfl) (Nat.lt_succ_self _) (Nat.zero_le _) (fun _ => rfl) (fun _ => rfl)
    exact loop18 _ 0 0 _ (lv_sub hl [2, 3, 1, 0] rfl) (Nat.lt_succ_self _) (Nat.zero_le _) rfl
  · refine lv_aload_n hx hb dX10_sharers_8 rfl (lv_at hl 0 rfl) ?_
    refine lv_iconst (v := 1) hx hb dX10_sharers_9 (by decide) ?_
    refine zcallMV (As := [.int 1]) (rest := []) X hml hK hW (ctX10_fails l D cy ad μ hj 1) zmX10_fails (by decide) m_1262 (zrecv hK (hW 30 0 rfl (by decide)) rfl) ⟨Nat.le_of_ble_eq_true rfl, Nat.le_of_ble_eq_true rfl⟩ ⟨Nat.zero_le _, Nat.zero_le _⟩ rfl hl.1 rfl (Nat.le_of_ble_eq_true rfl) dX10_sharers_10 hS hA (fun H locs hW hsz hfr hS => ?_)
    exact zm_i hx hb hr hlocks (by rw [r_X10_sharers, if_neg (by simp [b1])]; rfl) (by rw [f_X10_sharers, if_neg (by simp [b1])]; exact hW) hS dX10_sharers_13
