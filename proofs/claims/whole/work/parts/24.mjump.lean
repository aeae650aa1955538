def y_jm (μ : zS) (w1 w2 : Int32) : Nat → zS
  | 0 => zpA μ 60 0 w1.toNatClampNeg 1
  | k + 1 => if (w2 >>> (nI k &&& 31)) &&& 1 = 1 then zpA (zpA (zpA (zpA (y_jm μ w1 w2 k) 38 0 (zA μ 61 0 (6 * w1.toNatClampNeg + k)).toNatClampNeg 111) 42 0 (zA μ 61 0 (6 * w1.toNatClampNeg + k)).toNatClampNeg (zA (zpA (y_jm μ w1 w2 k) 38 0 (zA μ 61 0 (6 * w1.toNatClampNeg + k)).toNatClampNeg 111) 42 0 (zA μ 61 0 (6 * w1.toNatClampNeg + k)).toNatClampNeg + 1)) 38 0 (zA μ 62 0 (6 * w1.toNatClampNeg + k)).toNatClampNeg 111) 42 0 (zA μ 62 0 (6 * w1.toNatClampNeg + k)).toNatClampNeg (zA (zpA (zpA (zpA (y_jm μ w1 w2 k) 38 0 (zA μ 61 0 (6 * w1.toNatClampNeg + k)).toNatClampNeg 111) 42 0 (zA μ 61 0 (6 * w1.toNatClampNeg + k)).toNatClampNeg (zA (zpA (y_jm μ w1 w2 k) 38 0 (zA μ 61 0 (6 * w1.toNatClampNeg + k)).toNatClampNeg 111) 42 0 (zA μ 61 0 (6 * w1.toNatClampNeg + k)).toNatClampNeg + 1)) 38 0 (zA μ 62 0 (6 * w1.toNatClampNeg + k)).toNatClampNeg 111) 42 0 (zA μ 62 0 (6 * w1.toNatClampNeg + k)).toNatClampNeg + 1) else zpA (zpA (zpA (zpA (y_jm μ w1 w2 k) 38 0 (zA μ 61 0 (6 * w1.toNatClampNeg + k)).toNatClampNeg 111) 42 0 (zA μ 61 0 (6 * w1.toNatClampNeg + k)).toNatClampNeg (zA (zpA (y_jm μ w1 w2 k) 38 0 (zA μ 61 0 (6 * w1.toNatClampNeg + k)).toNatClampNeg 111) 42 0 (zA μ 61 0 (6 * w1.toNatClampNeg + k)).toNatClampNeg + 1)) 38 0 (zA μ 62 0 (6 * w1.toNatClampNeg + k)).toNatClampNeg 107) 42 0 (zA μ 62 0 (6 * w1.toNatClampNeg + k)).toNatClampNeg (zA (zpA (zpA (zpA (y_jm μ w1 w2 k) 38 0 (zA μ 61 0 (6 * w1.toNatClampNeg + k)).toNatClampNeg 111) 42 0 (zA μ 61 0 (6 * w1.toNatClampNeg + k)).toNatClampNeg (zA (zpA (y_jm μ w1 w2 k) 38 0 (zA μ 61 0 (6 * w1.toNatClampNeg + k)).toNatClampNeg 111) 42 0 (zA μ 61 0 (6 * w1.toNatClampNeg + k)).toNatClampNeg + 1)) 38 0 (zA μ 62 0 (6 * w1.toNatClampNeg + k)).toNatClampNeg 107) 42 0 (zA μ 62 0 (6 * w1.toNatClampNeg + k)).toNatClampNeg + 0)
theorem y_jm_A (μ : zS) (w1 w2 : Int32) (g i j : Nat) (hg : g ≠ 38 ∧ g ≠ 42 ∧ g ≠ 60) : ∀ k, zA (y_jm μ w1 w2 k) g i j = zA μ g i j
  | 0 => by rw [y_jm, zA_pA, if_neg (fun z => hg.2.2 z.1)]
  | k + 1 => by
    rw [y_jm]
    split <;> (rw [zA_pA, if_neg (fun z => hg.2.1 z.1), zA_pA, if_neg (fun z => hg.1 z.1), zA_pA, if_neg (fun z => hg.2.1 z.1), zA_pA, if_neg (fun z => hg.1 z.1)]; exact y_jm_A μ w1 w2 g i j hg k)
def y_jr (μ : zS) (w1 : Int32) : Nat := if y_has μ 842 w1 = true then (if zA μ 59 0 w1.toNatClampNeg = 0 ∨ zA μ 60 0 w1.toNatClampNeg = 1 ∨ y_areFit μ w1.toNatClampNeg = false then 2 else 0) else 1
def f_X10_jump (μ : zS) (w1 w2 : Int32) : zS := if y_jr μ w1 = 0 then zpI (y_jm μ w1 w2 (zA μ 59 0 w1.toNatClampNeg).toNatClampNeg) 838 0 0 else zpI μ 838 0 (if y_jr μ w1 = 1 then 1 else 2)
def r_X10_jump (μ : zS) (w1 : Int32) : Int32 := if y_jr μ w1 = 0 then zA μ 59 0 w1.toNatClampNeg else 0
theorem zmX10_jump : zmV yX10_jump RX10 cX10_jump 7 (some .int) 2 := ⟨m_1415, m_1416, m_9, m_1417, rfl, by decide, by decide, by decide +kernel⟩
set_option maxRecDepth 100000 in
set_option maxHeartbeats 4000000 in
theorem ctX10_jump (l : Launch) (D : va_G) (cy : Nat → ClassId) (ad : Nat → Nat → Nat) (μ : zS) (hj : zinj ad zsM) (w1 : Int32) (w2 : Int32) (hV : yV μ) : Met l yX10_jump (zw yX10_jump cX10_jump 7 (some .int)) (zrm 5) (va_Pc [.ref (ad 30 0), .int w1, .int w2] (zB D cy (zW D cy ad zsM μ))) (zqM (some (.int (r_X10_jump μ w1))) (zW D cy ad zsM (f_X10_jump μ w1 w2)) (zrg ad zsM)) 0 0 (zrg ad zsM) := by
  refine zmet (by decide) rfl (Nat.le_of_ble_eq_true rfl) rfl (fun p e s m below meth c ls X hml hr hlocks hv hl => ?_)
  obtain ⟨hK, hW⟩ := hv
  obtain ⟨hx, hb, -, -⟩ := id X
  have hl : lv_has ls 7 [(0, .ref (ad 30 0)), (1, .int w1), (2, .int w2)] := hl
  have hS : va_S (zrg ad zsM) s.heap s.heap [] := va_S.rf
  generalize hAe : zrg ad zsM = A at hS ⊢
  have hA : ∀ q, zrg ad zsM q → A q := fun q h => by rw [← hAe]; exact h
  refine lv_aload_n hx hb dX10_jump_0 rfl (lv_at hl 0 rfl) ?_
  refine lv_iload_n hx hb dX10_jump_1 rfl (lv_at hl 1 rfl) ?_
  refine zcallRV (As := [.int w1]) (rest := []) X hml hK hW (ctX10_isLoad l D cy ad μ w1) zmX10_isLoad (by decide) m_1390 (zrecv hK (hW 30 0 rfl (by decide)) rfl) ⟨Nat.le_of_ble_eq_true rfl, Nat.le_of_ble_eq_true rfl⟩ ⟨Nat.zero_le _, Nat.zero_le _⟩ rfl hl.1 rfl (Nat.le_of_ble_eq_true rfl) dX10_jump_2 ?_
  refine zb_ne (tgt := 14) hx hb dX10_jump_5 (by decide) (fun b1 => ?_) (fun b1 => ?_)
  · refine lv_aload_n hx hb dX10_jump_14 rfl (lv_at hl 0 rfl) ?_
    refine zg8_28 X hK hW m_1134 dX10_jump_15 ?_
    refine lv_iload_n hx hb dX10_jump_18 rfl (lv_at hl 1 rfl) ?_
    refine za59 X hK hW (yhas_in hV.1.2.2.2.1 (by decide) b1) dX10_jump_19 ?_
    refine lv_if_eq (tgt := 41) hx hb dX10_jump_20 (by decide) (fun b2 => ?_) (fun b2 => ?_)
    · refine lv_aload_n hx hb dX10_jump_41 rfl (lv_at hl 0 rfl) ?_
      refine lv_iconst (v := 2) hx hb dX10_jump_42 (by decide) ?_
      refine zcallMV (As := [.int 2]) (rest := []) X hml hK hW (ctX10_fails l D cy ad μ hj 2) zmX10_fails (by decide) m_1262 (zrecv hK (hW 30 0 rfl (by decide)) rfl) ⟨Nat.le_of_ble_eq_true rfl, Nat.le_of_ble_eq_true rfl⟩ ⟨Nat.zero_le _, Nat.zero_le _⟩ rfl hl.1 rfl (Nat.le_of_ble_eq_true rfl) dX10_jump_43 hS hA (fun H locs hW hsz hfr hS => ?_)
      exact zm_i hx hb hr hlocks (by rw [r_X10_jump, if_neg (by simp [y_jr, b1, b2])]; rfl) (by rw [f_X10_jump, show y_jr μ w1 = 2 by simp [y_jr, b1, b2]]; exact hW) hS dX10_jump_46
    · refine lv_aload_n hx hb dX10_jump_23 rfl (lv_at hl 0 rfl) ?_
      refine zg8_29 X hK hW m_1135 dX10_jump_24 ?_
      refine lv_iload_n hx hb dX10_jump_27 rfl (lv_at hl 1 rfl) ?_
      refine za60 X hK hW (yhas_in hV.1.2.2.2.1 (by decide) b1) dX10_jump_28 ?_
      refine lv_iconst (v := 1) hx hb dX10_jump_29 (by decide) ?_
      refine lv_icmp_eq (tgt := 41) hx hb dX10_jump_30 (by decide) (fun b3 => ?_) (fun b3 => ?_)
      · refine lv_aload_n hx hb dX10_jump_41 rfl (lv_at hl 0 rfl) ?_
        refine lv_iconst (v := 2) hx hb dX10_jump_42 (by decide) ?_
        refine zcallMV (As := [.int 2]) (rest := []) X hml hK hW (ctX10_fails l D cy ad μ hj 2) zmX10_fails (by decide) m_1262 (zrecv hK (hW 30 0 rfl (by decide)) rfl) ⟨Nat.le_of_ble_eq_true rfl, Nat.le_of_ble_eq_true rfl⟩ ⟨Nat.zero_le _, Nat.zero_le _⟩ rfl hl.1 rfl (Nat.le_of_ble_eq_true rfl) dX10_jump_43 hS hA (fun H locs hW hsz hfr hS => ?_)
        exact zm_i hx hb hr hlocks (by rw [r_X10_jump, if_neg (by simp [y_jr, b1, b2, Ne.symm b2, b3])]; rfl) (by rw [f_X10_jump, show y_jr μ w1 = 2 by simp [y_jr, b1, b2, Ne.symm b2, b3]]; exact hW) hS dX10_jump_46
      · refine lv_aload_n hx hb dX10_jump_33 rfl (lv_at hl 0 rfl) ?_
        refine lv_iload_n hx hb dX10_jump_34 rfl (lv_at hl 1 rfl) ?_
        refine zcallRV (As := [.int w1]) (rest := []) X hml hK hW (ctX10_areFit_x l D cy ad μ w1 b1 hV) zmX10_areFit (by decide) m_1418 (zrecv hK (hW 30 0 rfl (by decide)) rfl) ⟨Nat.le_of_ble_eq_true rfl, Nat.le_of_ble_eq_true rfl⟩ ⟨Nat.zero_le _, Nat.zero_le _⟩ rfl hl.1 rfl (Nat.le_of_ble_eq_true rfl) dX10_jump_35 ?_
        refine zb_ne (tgt := 47) hx hb dX10_jump_38 (by decide) (fun b4 => ?_) (fun b4 => ?_)
        · have hL := (yhas_in hV.1.2.2.2.1 (by decide) b1)
          obtain ⟨a0, ha6, ha, hin⟩ := yab hV b1
          refine lv_aload_n hx hb dX10_jump_47 rfl (lv_at hl 0 rfl) ?_
          refine zg8_29 X hK hW m_1135 dX10_jump_48 ?_
          refine lv_iload_n hx hb dX10_jump_51 rfl (lv_at hl 1 rfl) ?_
          refine lv_iconst (v := 1) hx hb dX10_jump_52 (by decide) ?_
          refine zs60 X hK hW hj hA hS (yhas_in hV.1.2.2.2.1 (by decide) b1) dX10_jump_53 (fun H locs hW hS => ?_)
          refine lv_iconst (v := 0) hx hb dX10_jump_54 (by decide) ?_
          refine lv_istore_n (lv' := [(3, .int 0), (0, .ref (ad 30 0)), (1, .int w1), (2, .int w2)]) hx hb dX10_jump_55 rfl hl (by decide) rfl (fun ls hl => ?_)
          have loop56 : ∀ (n : Nat) (k : Nat) (ls : Array Slot), lv_has ls 7 [(0, .ref (ad 30 0)), (1, .int w1), (2, .int w2), (3, .int (nI k))] → a0 + 1 - k < n → ∀ (τ : zS) (H : Heap) (locs : List Loc), zW D cy ad zsM τ H → va_S A s.heap H locs → (k ≤ a0) → (τ = y_jm μ w1 w2 k) → W p l e (zrm 5) s m ([.ref (ad 30 0), .int w1, .int w2] : List Value).toArray below meth c H locs 0 0 (MQ below (zqM (some (.int (r_X10_jump μ w1))) (zW D cy ad zsM (f_X10_jump μ w1 w2)) A) ([.ref (ad 30 0), .int w1, .int w2] : List Value).toArray s 0 0 A) (F0 m 56 ls []) := by
            intro n
            induction n with
            | zero => intro k ls hl hm τ H locs hW hS hk ht; exact absurd hm (Nat.not_lt_zero _)
            | succ n ih56 =>
              intro k ls hl hm τ H locs hW hS hk ht
              have eA : ∀ g i j, (g ≠ 38 ∧ g ≠ 42 ∧ g ≠ 60) → zA τ g i j = zA μ g i j := by intro g i j hg; rw [ht]; exact y_jm_A μ w1 w2 g i j hg k
              have e59 : zA τ 59 0 w1.toNatClampNeg = nI a0 := by rw [eA _ _ _ (by decide)]; exact ha
              refine lv_iload_n hx hb dX10_jump_56 rfl (lv_at hl 3 rfl) ?_
              refine lv_aload_n hx hb dX10_jump_57 rfl (lv_at hl 0 rfl) ?_
              refine zg8_28 X hK hW m_1134 dX10_jump_58 ?_
              refine lv_iload_n hx hb dX10_jump_61 rfl (lv_at hl 1 rfl) ?_
              refine za59 X hK hW (yhas_in hV.1.2.2.2.1 (by decide) b1) dX10_jump_62 ?_
              refine lv_icmp_ge (tgt := 173) hx hb dX10_jump_63 (by decide) (fun b5 => ?_) (fun b5 => ?_)
              · refine lv_aload_n hx hb dX10_jump_173 rfl (lv_at hl 0 rfl) ?_
                refine lv_aload_n hx hb dX10_jump_174 rfl (lv_at hl 0 rfl) ?_
                refine zg8_28 X hK hW m_1134 dX10_jump_175 ?_
                refine lv_iload_n hx hb dX10_jump_178 rfl (lv_at hl 1 rfl) ?_
                refine za59 X hK hW (yhas_in hV.1.2.2.2.1 (by decide) b1) dX10_jump_179 ?_
                refine zcallMV (As := [.int (zA τ 59 0 w1.toNatClampNeg)]) (rest := []) X hml hK hW (ctX10_tell l D cy ad τ hj (zA τ 59 0 w1.toNatClampNeg)) zmX10_tell (by decide) m_1266 (zrecv hK (hW 30 0 rfl (by decide)) rfl) ⟨Nat.le_of_ble_eq_true rfl, Nat.le_of_ble_eq_true rfl⟩ ⟨Nat.zero_le _, Nat.zero_le _⟩ rfl hl.1 rfl (Nat.le_of_ble_eq_true rfl) dX10_jump_180 hS hA (fun H locs hW hsz hfr hS => ?_)
                exact zm_i hx hb hr hlocks (by rw [r_X10_jump, if_pos (by simp [y_jr, b1, b2, Ne.symm b2, b3, Ne.symm b3, b4, b5, Int32.not_lt.mpr b5])]; show zA τ 59 0 w1.toNatClampNeg = _; rw [e59, ha]) (by rw [f_X10_jump, if_pos (by simp [y_jr, b1, b2, Ne.symm b2, b3, Ne.symm b3, b4, b5, Int32.not_lt.mpr b5]), ha, nI_clamp (by omega), ← zge_c (by omega) hk (by rw [← e59]; exact b5), ← ht]; exact hW) hS dX10_jump_183
              · have hlt : k < a0 := zlt_c (by omega) hk (by rw [← e59]; exact b5)
                refine lv_aload_n hx hb dX10_jump_66 rfl (lv_at hl 0 rfl) ?_
                refine zg8_30 X hK hW m_1136 dX10_jump_67 ?_
                refine lv_bipush (v := 6) hx hb dX10_jump_70 (by decide) ?_
                refine lv_iload_n hx hb dX10_jump_72 rfl (lv_at hl 1 rfl) ?_
                refine lv_imul hx hb dX10_jump_73 ?_
                refine lv_iload_n hx hb dX10_jump_74 rfl (lv_at hl 3 rfl) ?_
                refine lv_iadd hx hb dX10_jump_75 ?_
                refine za61 X hK hW (y6_in hL (vp_in_nI (show k < 6 by omega) (by decide))) dX10_jump_76 ?_
                rw [show zA τ 61 0 (6 * w1 + nI k).toNatClampNeg = zA μ 61 0 (6 * w1.toNatClampNeg + k) by rw [y6c hL (by omega), eA _ _ _ (by decide)]]
                refine lv_istore (lv' := [(4, .int (zA μ 61 0 (6 * w1.toNatClampNeg + k))), (0, .ref (ad 30 0)), (1, .int w1), (2, .int w2), (3, .int (nI k))]) hx hb dX10_jump_77 hl (by decide) rfl (fun ls hl => ?_)
                refine lv_aload_n hx hb dX10_jump_79 rfl (lv_at hl 1 rfl) ?_
                refine zg8_31 X hK hW m_1137 dX10_jump_80 ?_
                refine lv_bipush (v := 6) hx hb dX10_jump_83 (by decide) ?_
                refine lv_iload_n hx hb dX10_jump_85 rfl (lv_at hl 2 rfl) ?_
                refine lv_imul hx hb dX10_jump_86 ?_
                refine lv_iload_n hx hb dX10_jump_87 rfl (lv_at hl 4 rfl) ?_
                refine lv_iadd hx hb dX10_jump_88 ?_
                refine za62 X hK hW (y6_in hL (vp_in_nI (show k < 6 by omega) (by decide))) dX10_jump_89 ?_
                rw [show zA τ 62 0 (6 * w1 + nI k).toNatClampNeg = zA μ 62 0 (6 * w1.toNatClampNeg + k) by rw [y6c hL (by omega), eA _ _ _ (by decide)]]
                refine lv_istore (lv' := [(5, .int (zA μ 62 0 (6 * w1.toNatClampNeg + k))), (4, .int (zA μ 61 0 (6 * w1.toNatClampNeg + k))), (0, .ref (ad 30 0)), (1, .int w1), (2, .int w2), (3, .int (nI k))]) hx hb dX10_jump_90 hl (by decide) rfl (fun ls hl => ?_)
                refine lv_iload_n hx hb dX10_jump_92 rfl (lv_at hl 4 rfl) ?_
                refine lv_iload_n hx hb dX10_jump_93 rfl (lv_at hl 5 rfl) ?_
                refine lv_ishr hx hb dX10_jump_94 ?_
                refine lv_iconst (v := 1) hx hb dX10_jump_95 (by decide) ?_
                refine lv_iand hx hb dX10_jump_96 ?_
                refine lv_iconst (v := 1) hx hb dX10_jump_97 (by decide) ?_
                refine lv_icmp_ne (tgt := 105) hx hb dX10_jump_98 (by decide) (fun b6 => ?_) (fun b6 => ?_)
                · refine lv_iconst (v := 0) hx hb dX10_jump_105 (by decide) ?_
                  refine lv_istore (lv' := [(6, .int 0), (5, .int (zA μ 62 0 (6 * w1.toNatClampNeg + k))), (4, .int (zA μ 61 0 (6 * w1.toNatClampNeg + k))), (0, .ref (ad 30 0)), (1, .int w1), (2, .int w2), (3, .int (nI k))]) hx hb dX10_jump_106 hl (by decide) rfl (fun ls hl => ?_)
                  refine lv_aload_n hx hb dX10_jump_108 rfl (lv_at hl 3 rfl) ?_
                  refine zg8_7 X hK hW m_1113 dX10_jump_109 ?_
                  refine lv_iload hx hb dX10_jump_112 (lv_at hl 2 rfl) ?_
                  refine lv_bipush (v := 111) hx hb dX10_jump_114 (by decide) ?_
                  refine zs38 X hK hW hj hA hS (hin k hlt).1 dX10_jump_116 (fun H locs hW hS => ?_)
                  refine lv_aload_n hx hb dX10_jump_117 rfl (lv_at hl 3 rfl) ?_
                  refine zg8_11 X hK hW m_1117 dX10_jump_118 ?_
                  refine lv_iload hx hb dX10_jump_121 (lv_at hl 2 rfl) ?_
                  refine lv_dup2_11 hx hb dX10_jump_123 rfl rfl ?_
                  refine za42 X hK hW (hin k hlt).1 dX10_jump_124 ?_
                  refine lv_iconst (v := 1) hx hb dX10_jump_125 (by decide) ?_
                  refine lv_iadd hx hb dX10_jump_126 ?_
                  refine zs42 X hK hW hj hA hS (hin k hlt).1 dX10_jump_127 (fun H locs hW hS => ?_)
                  refine lv_aload_n hx hb dX10_jump_128 rfl (lv_at hl 3 rfl) ?_
                  refine zg8_7 X hK hW m_1113 dX10_jump_129 ?_
                  refine lv_iload hx hb dX10_jump_132 (lv_at hl 1 rfl) ?_
                  refine lv_iload hx hb dX10_jump_134 (lv_at hl 0 rfl) ?_
                  refine lv_if_eq (tgt := 144) hx hb dX10_jump_136 (by decide) (fun _ => ?_) (fun h => absurd h (by decide))
                  refine lv_bipush (v := 107) hx hb dX10_jump_144 (by decide) ?_
                  refine zs38 X hK hW hj hA hS (hin k hlt).2 dX10_jump_146 (fun H locs hW hS => ?_)
                  refine lv_aload_n hx hb dX10_jump_147 rfl (lv_at hl 3 rfl) ?_
                  refine zg8_11 X hK hW m_1117 dX10_jump_148 ?_
                  refine lv_iload hx hb dX10_jump_151 (lv_at hl 1 rfl) ?_
                  refine lv_dup2_11 hx hb dX10_jump_153 rfl rfl ?_
                  refine za42 X hK hW (hin k hlt).2 dX10_jump_154 ?_
                  refine lv_iload hx hb dX10_jump_155 (lv_at hl 0 rfl) ?_
                  refine lv_if_eq (tgt := 164) hx hb dX10_jump_157 (by decide) (fun _ => ?_) (fun h => absurd h (by decide))
                  refine lv_iconst (v := 0) hx hb dX10_jump_164 (by decide) ?_
                  refine lv_iadd hx hb dX10_jump_165 ?_
                  refine zs42 X hK hW hj hA hS (hin k hlt).2 dX10_jump_166 (fun H locs hW hS => ?_)
                  refine lv_iinc (v := nI (k + 1)) (lv' := [(3, .int (nI (k + 1))), (6, .int 0), (5, .int (zA μ 62 0 (6 * w1.toNatClampNeg + k))), (4, .int (zA μ 61 0 (6 * w1.toNatClampNeg + k))), (0, .ref (ad 30 0)), (1, .int w1), (2, .int w2)]) hx hb dX10_jump_167 hl (k := 6) rfl (nI_1 k) (by decide) rfl (fun ls hl => ?_)
                  refine lv_goto (tgt := 56) hx hb dX10_jump_170 (by decide) ?_
                  exact ih56 (k + 1) _ (lv_sub hl [4, 5, 6, 0] rfl) (by omega) (zpA (zpA (zpA (zpA τ 38 0 ((zA μ 61 0 (6 * w1.toNatClampNeg + k)).toNatClampNeg) 111) 42 0 ((zA μ 61 0 (6 * w1.toNatClampNeg + k)).toNatClampNeg) ((zA (zpA τ 38 0 ((zA μ 61 0 (6 * w1.toNatClampNeg + k)).toNatClampNeg) 111) 42 0 (zA μ 61 0 (6 * w1.toNatClampNeg + k)).toNatClampNeg) + 1)) 38 0 ((zA μ 62 0 (6 * w1.toNatClampNeg + k)).toNatClampNeg) 107) 42 0 ((zA μ 62 0 (6 * w1.toNatClampNeg + k)).toNatClampNeg) ((zA (zpA (zpA (zpA τ 38 0 ((zA μ 61 0 (6 * w1.toNatClampNeg + k)).toNatClampNeg) 111) 42 0 ((zA μ 61 0 (6 * w1.toNatClampNeg + k)).toNatClampNeg) ((zA (zpA τ 38 0 ((zA μ 61 0 (6 * w1.toNatClampNeg + k)).toNatClampNeg) 111) 42 0 (zA μ 61 0 (6 * w1.toNatClampNeg + k)).toNatClampNeg) + 1)) 38 0 ((zA μ 62 0 (6 * w1.toNatClampNeg + k)).toNatClampNeg) 107) 42 0 (zA μ 62 0 (6 * w1.toNatClampNeg + k)).toNatClampNeg) + 0)) _ _ hW hS hlt (by rw [y_jm, ← ht, if_neg b6])
                · refine lv_iconst (v := 1) hx hb dX10_jump_101 (by decide) ?_
                  refine lv_goto (tgt := 106) hx hb dX10_jump_102 (by decide) ?_
                  refine lv_istore (lv' := [(6, .int 1), (5, .int (zA μ 62 0 (6 * w1.toNatClampNeg + k))), (4, .int (zA μ 61 0 (6 * w1.toNatClampNeg + k))), (0, .ref (ad 30 0)), (1, .int w1), (2, .int w2), (3, .int (nI k))]) hx hb dX10_jump_106 hl (by decide) rfl (fun ls hl => ?_)
                  refine lv_aload_n hx hb dX10_jump_108 rfl (lv_at hl 3 rfl) ?_
                  refine zg8_7 X hK hW m_1113 dX10_jump_109 ?_
                  refine lv_iload hx hb dX10_jump_112 (lv_at hl 2 rfl) ?_
                  refine lv_bipush (v := 111) hx hb dX10_jump_114 (by decide) ?_
                  refine zs38 X hK hW hj hA hS (hin k hlt).1 dX10_jump_116 (fun H locs hW hS => ?_)
                  refine lv_aload_n hx hb dX10_jump_117 rfl (lv_at hl 3 rfl) ?_
                  refine zg8_11 X hK hW m_1117 dX10_jump_118 ?_
                  refine lv_iload hx hb dX10_jump_121 (lv_at hl 2 rfl) ?_
                  refine lv_dup2_11 hx hb dX10_jump_123 rfl rfl ?_
                  refine za42 X hK hW (hin k hlt).1 dX10_jump_124 ?_
                  refine lv_iconst (v := 1) hx hb dX10_jump_125 (by decide) ?_
                  refine lv_iadd hx hb dX10_jump_126 ?_
                  refine zs42 X hK hW hj hA hS (hin k hlt).1 dX10_jump_127 (fun H locs hW hS => ?_)
                  refine lv_aload_n hx hb dX10_jump_128 rfl (lv_at hl 3 rfl) ?_
                  refine zg8_7 X hK hW m_1113 dX10_jump_129 ?_
                  refine lv_iload hx hb dX10_jump_132 (lv_at hl 1 rfl) ?_
                  refine lv_iload hx hb dX10_jump_134 (lv_at hl 0 rfl) ?_
                  refine lv_if_eq (tgt := 144) hx hb dX10_jump_136 (by decide) (fun h => absurd h (by decide)) (fun _ => ?_)
                  refine lv_bipush (v := 111) hx hb dX10_jump_139 (by decide) ?_
                  refine lv_goto (tgt := 146) hx hb dX10_jump_141 (by decide) ?_
                  refine zs38 X hK hW hj hA hS (hin k hlt).2 dX10_jump_146 (fun H locs hW hS => ?_)
                  refine lv_aload_n hx hb dX10_jump_147 rfl (lv_at hl 3 rfl) ?_
                  refine zg8_11 X hK hW m_1117 dX10_jump_148 ?_
                  refine lv_iload hx hb dX10_jump_151 (lv_at hl 1 rfl) ?_
                  refine lv_dup2_11 hx hb dX10_jump_153 rfl rfl ?_
                  refine za42 X hK hW (hin k hlt).2 dX10_jump_154 ?_
                  refine lv_iload hx hb dX10_jump_155 (lv_at hl 0 rfl) ?_
                  refine lv_if_eq (tgt := 164) hx hb dX10_jump_157 (by decide) (fun h => absurd h (by decide)) (fun _ => ?_)
                  refine lv_iconst (v := 1) hx hb dX10_jump_160 (by decide) ?_
                  refine lv_goto (tgt := 165) hx hb dX10_jump_161 (by decide) ?_
                  refine lv_iadd hx hb dX10_jump_165 ?_
                  refine zs42 X hK hW hj hA hS (hin k hlt).2 dX10_jump_166 (fun H locs hW hS => ?_)
                  refine lv_iinc (v := nI (k + 1)) (lv' := [(3, .int (nI (k + 1))), (6, .int 1), (5, .int (zA μ 62 0 (6 * w1.toNatClampNeg + k))), (4, .int (zA μ 61 0 (6 * w1.toNatClampNeg + k))), (0, .ref (ad 30 0)), (1, .int w1), (2, .int w2)]) hx hb dX10_jump_167 hl (k := 6) rfl (nI_1 k) (by decide) rfl (fun ls hl => ?_)
                  refine lv_goto (tgt := 56) hx hb dX10_jump_170 (by decide) ?_
                  exact ih56 (k + 1) _ (lv_sub hl [4, 5, 6, 0] rfl) (by omega) (zpA (zpA (zpA (zpA τ 38 0 ((zA μ 61 0 (6 * w1.toNatClampNeg + k)).toNatClampNeg) 111) 42 0 ((zA μ 61 0 (6 * w1.toNatClampNeg + k)).toNatClampNeg) ((zA (zpA τ 38 0 ((zA μ 61 0 (6 * w1.toNatClampNeg + k)).toNatClampNeg) 111) 42 0 (zA μ 61 0 (6 * w1.toNatClampNeg + k)).toNatClampNeg) + 1)) 38 0 ((zA μ 62 0 (6 * w1.toNatClampNeg + k)).toNatClampNeg) 111) 42 0 ((zA μ 62 0 (6 * w1.toNatClampNeg + k)).toNatClampNeg) ((zA (zpA (zpA (zpA τ 38 0 ((zA μ 61 0 (6 * w1.toNatClampNeg + k)).toNatClampNeg) 111) 42 0 ((zA μ 61 0 (6 * w1.toNatClampNeg + k)).toNatClampNeg) ((zA (zpA τ 38 0 ((zA μ 61 0 (6 * w1.toNatClampNeg + k)).toNatClampNeg) 111) 42 0 (zA μ 61 0 (6 * w1.toNatClampNeg + k)).toNatClampNeg) + 1)) 38 0 ((zA μ 62 0 (6 * w1.toNatClampNeg + k)).toNatClampNeg) 111) 42 0 (zA μ 62 0 (6 * w1.toNatClampNeg + k)).toNatClampNeg) + 1)) _ _ hW hS hlt (by rw [y_jm, ← ht, if_pos b6])
          exact loop56 _ 0 _ (lv_sub hl [1, 2, 3, 0] rfl) (Nat.lt_succ_self _) (zpA μ 60 0 w1.toNatClampNeg 1) _ _ hW hS (Nat.zero_le _) rfl
        · refine lv_aload_n hx hb dX10_jump_41 rfl (lv_at hl 0 rfl) ?_
          refine lv_iconst (v := 2) hx hb dX10_jump_42 (by decide) ?_
          refine zcallMV (As := [.int 2]) (rest := []) X hml hK hW (ctX10_fails l D cy ad μ hj 2) zmX10_fails (by decide) m_1262 (zrecv hK (hW 30 0 rfl (by decide)) rfl) ⟨Nat.le_of_ble_eq_true rfl, Nat.le_of_ble_eq_true rfl⟩ ⟨Nat.zero_le _, Nat.zero_le _⟩ rfl hl.1 rfl (Nat.le_of_ble_eq_true rfl) dX10_jump_43 hS hA (fun H locs hW hsz hfr hS => ?_)
          exact zm_i hx hb hr hlocks (by rw [r_X10_jump, if_neg (by simp [y_jr, b1, b2, Ne.symm b2, b3, Ne.symm b3, b4])]; rfl) (by rw [f_X10_jump, show y_jr μ w1 = 2 by simp [y_jr, b1, b2, Ne.symm b2, b3, Ne.symm b3, b4]]; exact hW) hS dX10_jump_46
  · refine lv_aload_n hx hb dX10_jump_8 rfl (lv_at hl 0 rfl) ?_
    refine lv_iconst (v := 1) hx hb dX10_jump_9 (by decide) ?_
    refine zcallMV (As := [.int 1]) (rest := []) X hml hK hW (ctX10_fails l D cy ad μ hj 1) zmX10_fails (by decide) m_1262 (zrecv hK (hW 30 0 rfl (by decide)) rfl) ⟨Nat.le_of_ble_eq_true rfl, Nat.le_of_ble_eq_true rfl⟩ ⟨Nat.zero_le _, Nat.zero_le _⟩ rfl hl.1 rfl (Nat.le_of_ble_eq_true rfl) dX10_jump_10 hS hA (fun H locs hW hsz hfr hS => ?_)
    exact zm_i hx hb hr hlocks (by rw [r_X10_jump, if_neg (by simp [y_jr, b1])]; rfl) (by rw [f_X10_jump, show y_jr μ w1 = 1 by simp [y_jr, b1]]; exact hW) hS dX10_jump_13
