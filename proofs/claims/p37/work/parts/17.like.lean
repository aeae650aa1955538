def lkG (σ ρ : zS) (i j : Nat) : Prop := zI σ 600 i = zI ρ 600 j ∧ zI σ 601 i = zI ρ 601 j
theorem zmX7_isLike : zmV yX7_isLike RX7 cX7_isLike 2 (some .boolean) 1 := ⟨m_594, m_595, m_4, m_596, rfl, by decide, by decide, by decide +kernel⟩
set_option maxRecDepth 100000 in
set_option maxHeartbeats 4000000 in
theorem ctX7_isLike (l : Launch) (D : va_G) (cy : Nat → ClassId) (ad : Nat → Nat → Nat) (σ : zS) (ad2 : Nat → Nat → Nat) (ρ : zS) (u1 : Nat) (hi_u1 : u1 < 8) (u2 : Nat) (hi_u2 : u2 < 8) (hL : lkG σ ρ u1 u2) : Met l yX7_isLike (zw yX7_isLike cX7_isLike 2 (some .boolean)) (zrm 0) (va_Pc [.ref (ad 10 u1), .ref (ad2 10 u2)] (zB D cy (fun H => zW D cy ad zsL σ H ∧ zW D cy ad2 zsL ρ H))) (zqR (.int (bI true))) 0 0 (fun _ => False) := by
  refine zmet (by decide) rfl (Nat.le_of_ble_eq_true rfl) rfl (fun p e s m below meth c ls X hml hr hlocks hv hl => ?_)
  obtain ⟨hK, hW, hW2⟩ := hv
  obtain ⟨hx, hb, -, -⟩ := id X
  have hl : lv_has ls 2 [(0, .ref (ad 10 u1)), (1, .ref (ad2 10 u2))] := hl
  obtain ⟨e1, e2⟩ := hL
  refine lv_aload_n hx hb dX7_isLike_0 rfl (lv_at hl 0 rfl) ?_
  refine zg6_0 X hK hW hi_u1 m_81 dX7_isLike_1 ?_
  refine lv_aload_n hx hb dX7_isLike_4 rfl (lv_at hl 1 rfl) ?_
  refine zg6_0 X hK hW2 hi_u2 m_81 dX7_isLike_5 ?_
  refine lv_icmp_ne (tgt := 26) hx hb dX7_isLike_8 (by decide) (fun h => absurd h (not_not_intro e1)) (fun b1 => ?_)
  refine lv_aload_n hx hb dX7_isLike_11 rfl (lv_at hl 0 rfl) ?_
  refine zg6_1 X hK hW hi_u1 m_83 dX7_isLike_12 ?_
  refine lv_aload_n hx hb dX7_isLike_15 rfl (lv_at hl 1 rfl) ?_
  refine zg6_1 X hK hW2 hi_u2 m_83 dX7_isLike_16 ?_
  refine lv_icmp_ne (tgt := 26) hx hb dX7_isLike_19 (by decide) (fun h => absurd h (not_not_intro e2)) (fun b2 => ?_)
  refine lv_iconst (v := 1) hx hb dX7_isLike_22 (by decide) ?_
  refine lv_goto (tgt := 27) hx hb dX7_isLike_23 (by decide) ?_
  exact ze_z hx hb hr hlocks rfl dX7_isLike_27
def lkF (σ ρ : zS) (i j : Nat) : Prop := zI σ 300 i = zI ρ 300 j ∧ zI σ 301 i = zI ρ 301 j ∧ zI σ 302 i = zI ρ 302 j ∧ zI σ 303 i = zI ρ 303 j ∧ zI σ 304 i = zI ρ 304 j ∧ zI σ 305 i = zI ρ 305 j ∧ zI σ 306 i = zI ρ 306 j
theorem zmX3_isLike : zmV yX3_isLike RX3 cX3_isLike 2 (some .boolean) 1 := ⟨m_630, m_631, m_7, m_632, rfl, by decide, by decide, by decide +kernel⟩
set_option maxRecDepth 100000 in
set_option maxHeartbeats 4000000 in
theorem ctX3_isLike (l : Launch) (D : va_G) (cy : Nat → ClassId) (ad : Nat → Nat → Nat) (σ : zS) (ad2 : Nat → Nat → Nat) (ρ : zS) (u1 : Nat) (hi_u1 : u1 < 12) (u2 : Nat) (hi_u2 : u2 < 12) (hL : lkF σ ρ u1 u2) : Met l yX3_isLike (zw yX3_isLike cX3_isLike 2 (some .boolean)) (zrm 0) (va_Pc [.ref (ad 16 u1), .ref (ad2 16 u2)] (zB D cy (fun H => zW D cy ad zsL σ H ∧ zW D cy ad2 zsL ρ H))) (zqR (.int (bI true))) 0 0 (fun _ => False) := by
  refine zmet (by decide) rfl (Nat.le_of_ble_eq_true rfl) rfl (fun p e s m below meth c ls X hml hr hlocks hv hl => ?_)
  obtain ⟨hK, hW, hW2⟩ := hv
  obtain ⟨hx, hb, -, -⟩ := id X
  have hl : lv_has ls 2 [(0, .ref (ad 16 u1)), (1, .ref (ad2 16 u2))] := hl
  obtain ⟨e1, e2, e3, e4, e5, e6, e7⟩ := hL
  refine lv_aload_n hx hb dX3_isLike_0 rfl (lv_at hl 0 rfl) ?_
  refine zg3_0 X hK hW hi_u1 m_211 dX3_isLike_1 ?_
  refine lv_aload_n hx hb dX3_isLike_4 rfl (lv_at hl 1 rfl) ?_
  refine zg3_0 X hK hW2 hi_u2 m_211 dX3_isLike_5 ?_
  refine lv_icmp_ne (tgt := 81) hx hb dX3_isLike_8 (by decide) (fun h => absurd h (not_not_intro e1)) (fun b1 => ?_)
  refine lv_aload_n hx hb dX3_isLike_11 rfl (lv_at hl 0 rfl) ?_
  refine zg3_1 X hK hW hi_u1 m_213 dX3_isLike_12 ?_
  refine lv_aload_n hx hb dX3_isLike_15 rfl (lv_at hl 1 rfl) ?_
  refine zg3_1 X hK hW2 hi_u2 m_213 dX3_isLike_16 ?_
  refine lv_icmp_ne (tgt := 81) hx hb dX3_isLike_19 (by decide) (fun h => absurd h (not_not_intro e2)) (fun b2 => ?_)
  refine lv_aload_n hx hb dX3_isLike_22 rfl (lv_at hl 0 rfl) ?_
  refine zg3_2 X hK hW hi_u1 m_216 dX3_isLike_23 ?_
  refine lv_aload_n hx hb dX3_isLike_26 rfl (lv_at hl 1 rfl) ?_
  refine zg3_2 X hK hW2 hi_u2 m_216 dX3_isLike_27 ?_
  refine lv_icmp_ne (tgt := 81) hx hb dX3_isLike_30 (by decide) (fun h => absurd h (not_not_intro e3)) (fun b3 => ?_)
  refine lv_aload_n hx hb dX3_isLike_33 rfl (lv_at hl 0 rfl) ?_
  refine zg3_3 X hK hW hi_u1 m_219 dX3_isLike_34 ?_
  refine lv_aload_n hx hb dX3_isLike_37 rfl (lv_at hl 1 rfl) ?_
  refine zg3_3 X hK hW2 hi_u2 m_219 dX3_isLike_38 ?_
  refine lv_icmp_ne (tgt := 81) hx hb dX3_isLike_41 (by decide) (fun h => absurd h (not_not_intro e4)) (fun b4 => ?_)
  refine lv_aload_n hx hb dX3_isLike_44 rfl (lv_at hl 0 rfl) ?_
  refine zg3_4 X hK hW hi_u1 m_222 dX3_isLike_45 ?_
  refine lv_aload_n hx hb dX3_isLike_48 rfl (lv_at hl 1 rfl) ?_
  refine zg3_4 X hK hW2 hi_u2 m_222 dX3_isLike_49 ?_
  refine lv_icmp_ne (tgt := 81) hx hb dX3_isLike_52 (by decide) (fun h => absurd h (not_not_intro e5)) (fun b5 => ?_)
  refine lv_aload_n hx hb dX3_isLike_55 rfl (lv_at hl 0 rfl) ?_
  refine zg3_5 X hK hW hi_u1 m_225 dX3_isLike_56 ?_
  refine lv_aload_n hx hb dX3_isLike_59 rfl (lv_at hl 1 rfl) ?_
  refine zg3_5 X hK hW2 hi_u2 m_225 dX3_isLike_60 ?_
  refine lv_icmp_ne (tgt := 81) hx hb dX3_isLike_63 (by decide) (fun h => absurd h (not_not_intro e6)) (fun b6 => ?_)
  refine lv_aload_n hx hb dX3_isLike_66 rfl (lv_at hl 0 rfl) ?_
  refine zg3_6 X hK hW hi_u1 m_227 dX3_isLike_67 ?_
  refine lv_aload_n hx hb dX3_isLike_70 rfl (lv_at hl 1 rfl) ?_
  refine zg3_6 X hK hW2 hi_u2 m_227 dX3_isLike_71 ?_
  refine lv_icmp_ne (tgt := 81) hx hb dX3_isLike_74 (by decide) (fun h => absurd h (not_not_intro e7)) (fun b7 => ?_)
  refine lv_iconst (v := 1) hx hb dX3_isLike_77 (by decide) ?_
  refine lv_goto (tgt := 82) hx hb dX3_isLike_78 (by decide) ?_
  exact ze_z hx hb hr hlocks rfl dX3_isLike_82
def lkM (σ ρ : zS) (i j : Nat) : Prop := zI σ 100 i = zI ρ 100 j ∧ zI σ 101 i = zI ρ 101 j ∧ zI σ 102 i = zI ρ 102 j ∧ zI σ 103 i = zI ρ 103 j ∧ zI σ 104 i = zI ρ 104 j
theorem zmX1_isMadeLike : zmV yX1_isMadeLike RX1 cX1_isMadeLike 2 (some .boolean) 1 := ⟨m_607, s_27, m_5, m_608, rfl, by decide, by decide, by decide +kernel⟩
set_option maxRecDepth 100000 in
set_option maxHeartbeats 4000000 in
theorem ctX1_isMadeLike (l : Launch) (D : va_G) (cy : Nat → ClassId) (ad : Nat → Nat → Nat) (σ : zS) (ad2 : Nat → Nat → Nat) (ρ : zS) (u1 : Nat) (hi_u1 : u1 < 24) (u2 : Nat) (hi_u2 : u2 < 24) (hL : lkM σ ρ u1 u2) : Met l yX1_isMadeLike (zw yX1_isMadeLike cX1_isMadeLike 2 (some .boolean)) (zrm 0) (va_Pc [.ref (ad 11 u1), .ref (ad2 11 u2)] (zB D cy (fun H => zW D cy ad zsL σ H ∧ zW D cy ad2 zsL ρ H))) (zqR (.int (bI true))) 0 0 (fun _ => False) := by
  refine zmet (by decide) rfl (Nat.le_of_ble_eq_true rfl) rfl (fun p e s m below meth c ls X hml hr hlocks hv hl => ?_)
  obtain ⟨hK, hW, hW2⟩ := hv
  obtain ⟨hx, hb, -, -⟩ := id X
  have hl : lv_has ls 2 [(0, .ref (ad 11 u1)), (1, .ref (ad2 11 u2))] := hl
  obtain ⟨e1, e2, e3, e4, e5⟩ := hL
  refine lv_aload_n hx hb dX1_isMadeLike_0 rfl (lv_at hl 0 rfl) ?_
  refine zg1_0 X hK hW hi_u1 m_94 dX1_isMadeLike_1 ?_
  refine lv_aload_n hx hb dX1_isMadeLike_4 rfl (lv_at hl 1 rfl) ?_
  refine zg1_0 X hK hW2 hi_u2 m_94 dX1_isMadeLike_5 ?_
  refine lv_icmp_ne (tgt := 59) hx hb dX1_isMadeLike_8 (by decide) (fun h => absurd h (not_not_intro e1)) (fun b1 => ?_)
  refine lv_aload_n hx hb dX1_isMadeLike_11 rfl (lv_at hl 0 rfl) ?_
  refine zg1_1 X hK hW hi_u1 m_97 dX1_isMadeLike_12 ?_
  refine lv_aload_n hx hb dX1_isMadeLike_15 rfl (lv_at hl 1 rfl) ?_
  refine zg1_1 X hK hW2 hi_u2 m_97 dX1_isMadeLike_16 ?_
  refine lv_icmp_ne (tgt := 59) hx hb dX1_isMadeLike_19 (by decide) (fun h => absurd h (not_not_intro e2)) (fun b2 => ?_)
  refine lv_aload_n hx hb dX1_isMadeLike_22 rfl (lv_at hl 0 rfl) ?_
  refine zg1_2 X hK hW hi_u1 m_99 dX1_isMadeLike_23 ?_
  refine lv_aload_n hx hb dX1_isMadeLike_26 rfl (lv_at hl 1 rfl) ?_
  refine zg1_2 X hK hW2 hi_u2 m_99 dX1_isMadeLike_27 ?_
  refine lv_icmp_ne (tgt := 59) hx hb dX1_isMadeLike_30 (by decide) (fun h => absurd h (not_not_intro e3)) (fun b3 => ?_)
  refine lv_aload_n hx hb dX1_isMadeLike_33 rfl (lv_at hl 0 rfl) ?_
  refine zg1_3 X hK hW hi_u1 m_101 dX1_isMadeLike_34 ?_
  refine lv_aload_n hx hb dX1_isMadeLike_37 rfl (lv_at hl 1 rfl) ?_
  refine zg1_3 X hK hW2 hi_u2 m_101 dX1_isMadeLike_38 ?_
  refine lv_icmp_ne (tgt := 59) hx hb dX1_isMadeLike_41 (by decide) (fun h => absurd h (not_not_intro e4)) (fun b4 => ?_)
  refine lv_aload_n hx hb dX1_isMadeLike_44 rfl (lv_at hl 0 rfl) ?_
  refine zg1_4 X hK hW hi_u1 m_103 dX1_isMadeLike_45 ?_
  refine lv_aload_n hx hb dX1_isMadeLike_48 rfl (lv_at hl 1 rfl) ?_
  refine zg1_4 X hK hW2 hi_u2 m_103 dX1_isMadeLike_49 ?_
  refine lv_icmp_ne (tgt := 59) hx hb dX1_isMadeLike_52 (by decide) (fun h => absurd h (not_not_intro e5)) (fun b5 => ?_)
  refine lv_iconst (v := 1) hx hb dX1_isMadeLike_55 (by decide) ?_
  refine lv_goto (tgt := 60) hx hb dX1_isMadeLike_56 (by decide) ?_
  exact ze_z hx hb hr hlocks rfl dX1_isMadeLike_60
def lkT (σ ρ : zS) (i j : Nat) : Prop := zI σ 113 i = zI ρ 113 j ∧ zI σ 114 i = zI ρ 114 j ∧ zI σ 115 i = zI ρ 115 j ∧ zI σ 116 i = zI ρ 116 j ∧ zI σ 117 i = zI ρ 117 j ∧ zI σ 118 i = zI ρ 118 j ∧ zI σ 119 i = zI ρ 119 j
theorem zmX1_isTriedLike : zmV yX1_isTriedLike RX1 cX1_isTriedLike 2 (some .boolean) 1 := ⟨m_615, s_29, m_5, m_616, rfl, by decide, by decide, by decide +kernel⟩
set_option maxRecDepth 100000 in
set_option maxHeartbeats 4000000 in
theorem ctX1_isTriedLike (l : Launch) (D : va_G) (cy : Nat → ClassId) (ad : Nat → Nat → Nat) (σ : zS) (ad2 : Nat → Nat → Nat) (ρ : zS) (u1 : Nat) (hi_u1 : u1 < 24) (u2 : Nat) (hi_u2 : u2 < 24) (hL : lkT σ ρ u1 u2) : Met l yX1_isTriedLike (zw yX1_isTriedLike cX1_isTriedLike 2 (some .boolean)) (zrm 0) (va_Pc [.ref (ad 11 u1), .ref (ad2 11 u2)] (zB D cy (fun H => zW D cy ad zsL σ H ∧ zW D cy ad2 zsL ρ H))) (zqR (.int (bI true))) 0 0 (fun _ => False) := by
  refine zmet (by decide) rfl (Nat.le_of_ble_eq_true rfl) rfl (fun p e s m below meth c ls X hml hr hlocks hv hl => ?_)
  obtain ⟨hK, hW, hW2⟩ := hv
  obtain ⟨hx, hb, -, -⟩ := id X
  have hl : lv_has ls 2 [(0, .ref (ad 11 u1)), (1, .ref (ad2 11 u2))] := hl
  obtain ⟨e1, e2, e3, e4, e5, e6, e7⟩ := hL
  refine lv_aload_n hx hb dX1_isTriedLike_0 rfl (lv_at hl 0 rfl) ?_
  refine zg1_13 X hK hW hi_u1 m_126 dX1_isTriedLike_1 ?_
  refine lv_aload_n hx hb dX1_isTriedLike_4 rfl (lv_at hl 1 rfl) ?_
  refine zg1_13 X hK hW2 hi_u2 m_126 dX1_isTriedLike_5 ?_
  refine lv_icmp_ne (tgt := 81) hx hb dX1_isTriedLike_8 (by decide) (fun h => absurd h (not_not_intro e1)) (fun b1 => ?_)
  refine lv_aload_n hx hb dX1_isTriedLike_11 rfl (lv_at hl 0 rfl) ?_
  refine zg1_14 X hK hW hi_u1 m_128 dX1_isTriedLike_12 ?_
  refine lv_aload_n hx hb dX1_isTriedLike_15 rfl (lv_at hl 1 rfl) ?_
  refine zg1_14 X hK hW2 hi_u2 m_128 dX1_isTriedLike_16 ?_
  refine lv_icmp_ne (tgt := 81) hx hb dX1_isTriedLike_19 (by decide) (fun h => absurd h (not_not_intro e2)) (fun b2 => ?_)
  refine lv_aload_n hx hb dX1_isTriedLike_22 rfl (lv_at hl 0 rfl) ?_
  refine zg1_15 X hK hW hi_u1 m_130 dX1_isTriedLike_23 ?_
  refine lv_aload_n hx hb dX1_isTriedLike_26 rfl (lv_at hl 1 rfl) ?_
  refine zg1_15 X hK hW2 hi_u2 m_130 dX1_isTriedLike_27 ?_
  refine lv_icmp_ne (tgt := 81) hx hb dX1_isTriedLike_30 (by decide) (fun h => absurd h (not_not_intro e3)) (fun b3 => ?_)
  refine lv_aload_n hx hb dX1_isTriedLike_33 rfl (lv_at hl 0 rfl) ?_
  refine zg1_16 X hK hW hi_u1 m_132 dX1_isTriedLike_34 ?_
  refine lv_aload_n hx hb dX1_isTriedLike_37 rfl (lv_at hl 1 rfl) ?_
  refine zg1_16 X hK hW2 hi_u2 m_132 dX1_isTriedLike_38 ?_
  refine lv_icmp_ne (tgt := 81) hx hb dX1_isTriedLike_41 (by decide) (fun h => absurd h (not_not_intro e4)) (fun b4 => ?_)
  refine lv_aload_n hx hb dX1_isTriedLike_44 rfl (lv_at hl 0 rfl) ?_
  refine zg1_17 X hK hW hi_u1 m_133 dX1_isTriedLike_45 ?_
  refine lv_aload_n hx hb dX1_isTriedLike_48 rfl (lv_at hl 1 rfl) ?_
  refine zg1_17 X hK hW2 hi_u2 m_133 dX1_isTriedLike_49 ?_
  refine lv_icmp_ne (tgt := 81) hx hb dX1_isTriedLike_52 (by decide) (fun h => absurd h (not_not_intro e5)) (fun b5 => ?_)
  refine lv_aload_n hx hb dX1_isTriedLike_55 rfl (lv_at hl 0 rfl) ?_
  refine zg1_18 X hK hW hi_u1 m_135 dX1_isTriedLike_56 ?_
  refine lv_aload_n hx hb dX1_isTriedLike_59 rfl (lv_at hl 1 rfl) ?_
  refine zg1_18 X hK hW2 hi_u2 m_135 dX1_isTriedLike_60 ?_
  refine lv_icmp_ne (tgt := 81) hx hb dX1_isTriedLike_63 (by decide) (fun h => absurd h (not_not_intro e6)) (fun b6 => ?_)
  refine lv_aload_n hx hb dX1_isTriedLike_66 rfl (lv_at hl 0 rfl) ?_
  refine zg1_19 X hK hW hi_u1 m_137 dX1_isTriedLike_67 ?_
  refine lv_aload_n hx hb dX1_isTriedLike_70 rfl (lv_at hl 1 rfl) ?_
  refine zg1_19 X hK hW2 hi_u2 m_137 dX1_isTriedLike_71 ?_
  refine lv_icmp_ne (tgt := 81) hx hb dX1_isTriedLike_74 (by decide) (fun h => absurd h (not_not_intro e7)) (fun b7 => ?_)
  refine lv_iconst (v := 1) hx hb dX1_isTriedLike_77 (by decide) ?_
  refine lv_goto (tgt := 82) hx hb dX1_isTriedLike_78 (by decide) ?_
  exact ze_z hx hb hr hlocks rfl dX1_isTriedLike_82
def lkP (σ ρ : zS) (i j : Nat) : Prop := zI σ 105 i = zI ρ 105 j ∧ zI σ 106 i = zI ρ 106 j ∧ zI σ 107 i = zI ρ 107 j ∧ zI σ 109 i = zI ρ 109 j ∧ zI σ 110 i = zI ρ 110 j ∧ zI σ 111 i = zI ρ 111 j ∧ zL σ 112 i = zL ρ 112 j ∧ ∀ q, q < 5 → q < (zI σ 107 i).toNatClampNeg → zA σ 12 i q = zA ρ 12 j q
theorem zmX1_isPackedLike : zmV yX1_isPackedLike RX1 cX1_isPackedLike 3 (some .boolean) 1 := ⟨m_611, s_28, m_5, m_612, rfl, by decide, by decide, by decide +kernel⟩
set_option maxRecDepth 100000 in
set_option maxHeartbeats 4000000 in
theorem ctX1_isPackedLike (l : Launch) (D : va_G) (cy : Nat → ClassId) (ad : Nat → Nat → Nat) (σ : zS) (ad2 : Nat → Nat → Nat) (ρ : zS) (u1 : Nat) (hi_u1 : u1 < 24) (u2 : Nat) (hi_u2 : u2 < 24) (hL : lkP σ ρ u1 u2) (h5 : vp_in (zI σ 107 u1) 6) : Met l yX1_isPackedLike (zw yX1_isPackedLike cX1_isPackedLike 3 (some .boolean)) (zrm 0) (va_Pc [.ref (ad 11 u1), .ref (ad2 11 u2)] (zB D cy (fun H => zW D cy ad zsL σ H ∧ zW D cy ad2 zsL ρ H))) (zqR (.int (bI true))) 0 0 (fun _ => False) := by
  refine zmet (by decide) rfl (Nat.le_of_ble_eq_true rfl) rfl (fun p e s m below meth c ls X hml hr hlocks hv hl => ?_)
  obtain ⟨hK, hW, hW2⟩ := hv
  obtain ⟨hx, hb, -, -⟩ := id X
  have hl : lv_has ls 3 [(0, .ref (ad 11 u1)), (1, .ref (ad2 11 u2))] := hl
  obtain ⟨e1, e2, e3, e4, e5, e6, e7, e8⟩ := hL
  obtain ⟨t, ht, hte⟩ := vp_in_of h5 (by decide)
  rw [hte, nI_clamp (by omega)] at e8
  refine lv_aload_n hx hb dX1_isPackedLike_0 rfl (lv_at hl 0 rfl) ?_
  refine zg1_5 X hK hW hi_u1 m_105 dX1_isPackedLike_1 ?_
  refine lv_aload_n hx hb dX1_isPackedLike_4 rfl (lv_at hl 1 rfl) ?_
  refine zg1_5 X hK hW2 hi_u2 m_105 dX1_isPackedLike_5 ?_
  refine lv_icmp_ne (tgt := 33) hx hb dX1_isPackedLike_8 (by decide) (fun h => absurd h (not_not_intro e1)) (fun b1 => ?_)
  refine lv_aload_n hx hb dX1_isPackedLike_11 rfl (lv_at hl 0 rfl) ?_
  refine zg1_6 X hK hW hi_u1 m_109 dX1_isPackedLike_12 ?_
  refine lv_aload_n hx hb dX1_isPackedLike_15 rfl (lv_at hl 1 rfl) ?_
  refine zg1_6 X hK hW2 hi_u2 m_109 dX1_isPackedLike_16 ?_
  refine lv_icmp_ne (tgt := 33) hx hb dX1_isPackedLike_19 (by decide) (fun h => absurd h (not_not_intro e2)) (fun b2 => ?_)
  refine lv_aload_n hx hb dX1_isPackedLike_22 rfl (lv_at hl 0 rfl) ?_
  refine zg1_7 X hK hW hi_u1 m_111 dX1_isPackedLike_23 ?_
  refine lv_aload_n hx hb dX1_isPackedLike_26 rfl (lv_at hl 1 rfl) ?_
  refine zg1_7 X hK hW2 hi_u2 m_111 dX1_isPackedLike_27 ?_
  refine lv_icmp_eq (tgt := 35) hx hb dX1_isPackedLike_30 (by decide) (fun b3 => ?_) (fun h => absurd e3 h)
  refine lv_iconst (v := 0) hx hb dX1_isPackedLike_35 (by decide) ?_
  refine lv_istore_n (lv' := [(2, .int 0), (0, .ref (ad 11 u1)), (1, .ref (ad2 11 u2))]) hx hb dX1_isPackedLike_36 rfl hl (by decide) rfl (fun ls hl => ?_)
  have loop37 : ∀ (n : Nat) (k : Nat) (ls : Array Slot), lv_has ls 3 [(0, .ref (ad 11 u1)), (1, .ref (ad2 11 u2)), (2, .int (nI k))] → 6 - k < n → (k ≤ 5) → W p l e (zrm 0) s m ([.ref (ad 11 u1), .ref (ad2 11 u2)] : List Value).toArray below meth c s.heap [] 0 0 (MQ below (zqR (.int (bI true))) ([.ref (ad 11 u1), .ref (ad2 11 u2)] : List Value).toArray s 0 0 (fun _ => False)) (F0 m 37 ls []) := by
    intro n
    induction n with
    | zero => intro k ls hl hm hk; exact absurd hm (Nat.not_lt_zero _)
    | succ n ih37 =>
      intro k ls hl hm hk
      refine lv_iload_n hx hb dX1_isPackedLike_37 rfl (lv_at hl 2 rfl) ?_
      refine lv_aload_n hx hb dX1_isPackedLike_38 rfl (lv_at hl 0 rfl) ?_
      refine zg1_7 X hK hW hi_u1 m_111 dX1_isPackedLike_39 ?_
      refine lv_icmp_ge (tgt := 73) hx hb dX1_isPackedLike_42 (by decide) (fun b4 => ?_) (fun b4 => ?_)
      · refine lv_aload_n hx hb dX1_isPackedLike_73 rfl (lv_at hl 0 rfl) ?_
        refine zg1_9 X hK hW hi_u1 m_117 dX1_isPackedLike_74 ?_
        refine lv_aload_n hx hb dX1_isPackedLike_77 rfl (lv_at hl 1 rfl) ?_
        refine zg1_9 X hK hW2 hi_u2 m_117 dX1_isPackedLike_78 ?_
        refine lv_icmp_ne (tgt := 122) hx hb dX1_isPackedLike_81 (by decide) (fun h => absurd h (not_not_intro e4)) (fun b5 => ?_)
        refine lv_aload_n hx hb dX1_isPackedLike_84 rfl (lv_at hl 0 rfl) ?_
        refine zg1_10 X hK hW hi_u1 m_120 dX1_isPackedLike_85 ?_
        refine lv_aload_n hx hb dX1_isPackedLike_88 rfl (lv_at hl 1 rfl) ?_
        refine zg1_10 X hK hW2 hi_u2 m_120 dX1_isPackedLike_89 ?_
        refine lv_icmp_ne (tgt := 122) hx hb dX1_isPackedLike_92 (by decide) (fun h => absurd h (not_not_intro e5)) (fun b6 => ?_)
        refine lv_aload_n hx hb dX1_isPackedLike_95 rfl (lv_at hl 0 rfl) ?_
        refine zg1_11 X hK hW hi_u1 m_122 dX1_isPackedLike_96 ?_
        refine lv_aload_n hx hb dX1_isPackedLike_99 rfl (lv_at hl 1 rfl) ?_
        refine zg1_11 X hK hW2 hi_u2 m_122 dX1_isPackedLike_100 ?_
        refine lv_icmp_ne (tgt := 122) hx hb dX1_isPackedLike_103 (by decide) (fun h => absurd h (not_not_intro e6)) (fun b7 => ?_)
        refine lv_aload_n hx hb dX1_isPackedLike_106 rfl (lv_at hl 0 rfl) ?_
        refine zg1_12 X hK hW hi_u1 m_124 dX1_isPackedLike_107 ?_
        refine lv_aload_n hx hb dX1_isPackedLike_110 rfl (lv_at hl 1 rfl) ?_
        refine zg1_12 X hK hW2 hi_u2 m_124 dX1_isPackedLike_111 ?_
        refine W.lcmp hx hb dX1_isPackedLike_114 ?_
        refine lv_if_ne (tgt := 122) hx hb dX1_isPackedLike_115 (by decide) (fun h => absurd h (not_not_intro ((lg_cmp_eq _ _).mpr e7))) (fun b8 => ?_)
        refine lv_iconst (v := 1) hx hb dX1_isPackedLike_118 (by decide) ?_
        refine lv_goto (tgt := 123) hx hb dX1_isPackedLike_119 (by decide) ?_
        exact ze_z hx hb hr hlocks rfl dX1_isPackedLike_123
      · have hkt : k < t := (nI_ltI (by omega) (by omega)).mp (by rw [← hte]; exact Int32.not_le.mp b4)
        refine lv_iload_n hx hb dX1_isPackedLike_45 rfl (lv_at hl 2 rfl) ?_
        refine lv_iconst (v := 5) hx hb dX1_isPackedLike_46 (by decide) ?_
        refine lv_icmp_ge (tgt := 73) hx hb dX1_isPackedLike_47 (by decide) (fun b9 => ?_) (fun b9 => ?_)
        · refine lv_aload_n hx hb dX1_isPackedLike_73 rfl (lv_at hl 0 rfl) ?_
          refine zg1_9 X hK hW hi_u1 m_117 dX1_isPackedLike_74 ?_
          refine lv_aload_n hx hb dX1_isPackedLike_77 rfl (lv_at hl 1 rfl) ?_
          refine zg1_9 X hK hW2 hi_u2 m_117 dX1_isPackedLike_78 ?_
          refine lv_icmp_ne (tgt := 122) hx hb dX1_isPackedLike_81 (by decide) (fun h => absurd h (not_not_intro e4)) (fun b10 => ?_)
          refine lv_aload_n hx hb dX1_isPackedLike_84 rfl (lv_at hl 0 rfl) ?_
          refine zg1_10 X hK hW hi_u1 m_120 dX1_isPackedLike_85 ?_
          refine lv_aload_n hx hb dX1_isPackedLike_88 rfl (lv_at hl 1 rfl) ?_
          refine zg1_10 X hK hW2 hi_u2 m_120 dX1_isPackedLike_89 ?_
          refine lv_icmp_ne (tgt := 122) hx hb dX1_isPackedLike_92 (by decide) (fun h => absurd h (not_not_intro e5)) (fun b11 => ?_)
          refine lv_aload_n hx hb dX1_isPackedLike_95 rfl (lv_at hl 0 rfl) ?_
          refine zg1_11 X hK hW hi_u1 m_122 dX1_isPackedLike_96 ?_
          refine lv_aload_n hx hb dX1_isPackedLike_99 rfl (lv_at hl 1 rfl) ?_
          refine zg1_11 X hK hW2 hi_u2 m_122 dX1_isPackedLike_100 ?_
          refine lv_icmp_ne (tgt := 122) hx hb dX1_isPackedLike_103 (by decide) (fun h => absurd h (not_not_intro e6)) (fun b12 => ?_)
          refine lv_aload_n hx hb dX1_isPackedLike_106 rfl (lv_at hl 0 rfl) ?_
          refine zg1_12 X hK hW hi_u1 m_124 dX1_isPackedLike_107 ?_
          refine lv_aload_n hx hb dX1_isPackedLike_110 rfl (lv_at hl 1 rfl) ?_
          refine zg1_12 X hK hW2 hi_u2 m_124 dX1_isPackedLike_111 ?_
          refine W.lcmp hx hb dX1_isPackedLike_114 ?_
          refine lv_if_ne (tgt := 122) hx hb dX1_isPackedLike_115 (by decide) (fun h => absurd h (not_not_intro ((lg_cmp_eq _ _).mpr e7))) (fun b13 => ?_)
          refine lv_iconst (v := 1) hx hb dX1_isPackedLike_118 (by decide) ?_
          refine lv_goto (tgt := 123) hx hb dX1_isPackedLike_119 (by decide) ?_
          exact ze_z hx hb hr hlocks rfl dX1_isPackedLike_123
        · have hlt : k < 5 := zlt_c (by decide) hk b9
          refine lv_aload_n hx hb dX1_isPackedLike_50 rfl (lv_at hl 0 rfl) ?_
          refine zg1_8 X hK hW hi_u1 m_114 dX1_isPackedLike_51 ?_
          refine lv_iload_n hx hb dX1_isPackedLike_54 rfl (lv_at hl 2 rfl) ?_
          refine zan12 X hK hW hi_u1 (by omega) dX1_isPackedLike_55 ?_
          refine lv_aload_n hx hb dX1_isPackedLike_56 rfl (lv_at hl 1 rfl) ?_
          refine zg1_8 X hK hW2 hi_u2 m_114 dX1_isPackedLike_57 ?_
          refine lv_iload_n hx hb dX1_isPackedLike_60 rfl (lv_at hl 2 rfl) ?_
          refine zan12 X hK hW2 hi_u2 (by omega) dX1_isPackedLike_61 ?_
          refine lv_icmp_eq (tgt := 67) hx hb dX1_isPackedLike_62 (by decide) (fun b14 => ?_) (fun h => absurd (e8 k hlt hkt) h)
          refine lv_iinc (v := nI (k + 1)) (lv' := [(2, .int (nI (k + 1))), (0, .ref (ad 11 u1)), (1, .ref (ad2 11 u2))]) hx hb dX1_isPackedLike_67 hl (k := 2) rfl (nI_1 k) (by decide) rfl (fun ls hl => ?_)
          refine lv_goto (tgt := 37) hx hb dX1_isPackedLike_70 (by decide) ?_
          exact ih37 (k + 1) _ (lv_sub hl [1, 2, 0] rfl) (by omega) hlt
  exact loop37 _ 0 _ (lv_sub hl [1, 2, 0] rfl) (Nat.lt_succ_self _) (Nat.zero_le _)
def lkC (σ ρ : zS) (i j : Nat) : Prop := lkM σ ρ i j ∧ lkP σ ρ i j ∧ lkT σ ρ i j
theorem zmX1_isLike : zmV yX1_isLike RX1 cX1_isLike 2 (some .boolean) 1 := ⟨m_602, m_603, m_5, m_604, rfl, by decide, by decide, by decide +kernel⟩
set_option maxRecDepth 100000 in
set_option maxHeartbeats 4000000 in
theorem ctX1_isLike (l : Launch) (D : va_G) (cy : Nat → ClassId) (ad : Nat → Nat → Nat) (σ : zS) (ad2 : Nat → Nat → Nat) (ρ : zS) (u1 : Nat) (hi_u1 : u1 < 24) (u2 : Nat) (hi_u2 : u2 < 24) (hL : lkC σ ρ u1 u2) (h5 : vp_in (zI σ 107 u1) 6) : Met l yX1_isLike (zw yX1_isLike cX1_isLike 2 (some .boolean)) (zrm 1) (va_Pc [.ref (ad 11 u1), .ref (ad2 11 u2)] (zB D cy (fun H => zW D cy ad zsL σ H ∧ zW D cy ad2 zsL ρ H))) (zqR (.int (bI true))) 0 0 (fun _ => False) := by
  refine zmet (by decide) rfl (Nat.le_of_ble_eq_true rfl) rfl (fun p e s m below meth c ls X hml hr hlocks hv hl => ?_)
  obtain ⟨hK, hW, hW2⟩ := hv
  obtain ⟨hx, hb, -, -⟩ := id X
  have hl : lv_has ls 2 [(0, .ref (ad 11 u1)), (1, .ref (ad2 11 u2))] := hl
  obtain ⟨e1, e2, e3⟩ := hL
  refine lv_aload_n hx hb dX1_isLike_0 rfl (lv_at hl 0 rfl) ?_
  refine lv_aload_n hx hb dX1_isLike_1 rfl (lv_at hl 1 rfl) ?_
  refine zcallRV (As := [.ref (ad2 11 u2)]) (rest := []) X hml hK ⟨hW, hW2⟩ (ctX1_isMadeLike l D cy ad σ ad2 ρ u1 hi_u1 u2 hi_u2 e1) zmX1_isMadeLike (by decide) m_605 (zrecv hK (hW 11 u1 rfl hi_u1) rfl) ⟨Nat.le_of_ble_eq_true rfl, Nat.le_of_ble_eq_true rfl⟩ ⟨Nat.zero_le _, Nat.zero_le _⟩ rfl hl.1 rfl (Nat.le_of_ble_eq_true rfl) dX1_isLike_2 ?_
  refine zb_eq (tgt := 28) hx hb dX1_isLike_5 (by decide) (fun h => absurd h (by decide)) (fun _ => ?_)
  refine lv_aload_n hx hb dX1_isLike_8 rfl (lv_at hl 0 rfl) ?_
  refine lv_aload_n hx hb dX1_isLike_9 rfl (lv_at hl 1 rfl) ?_
  refine zcallRV (As := [.ref (ad2 11 u2)]) (rest := []) X hml hK ⟨hW, hW2⟩ (ctX1_isPackedLike l D cy ad σ ad2 ρ u1 hi_u1 u2 hi_u2 e2 h5) zmX1_isPackedLike (by decide) m_609 (zrecv hK (hW 11 u1 rfl hi_u1) rfl) ⟨Nat.le_of_ble_eq_true rfl, Nat.le_of_ble_eq_true rfl⟩ ⟨Nat.zero_le _, Nat.zero_le _⟩ rfl hl.1 rfl (Nat.le_of_ble_eq_true rfl) dX1_isLike_10 ?_
  refine zb_eq (tgt := 28) hx hb dX1_isLike_13 (by decide) (fun h => absurd h (by decide)) (fun _ => ?_)
  refine lv_aload_n hx hb dX1_isLike_16 rfl (lv_at hl 0 rfl) ?_
  refine lv_aload_n hx hb dX1_isLike_17 rfl (lv_at hl 1 rfl) ?_
  refine zcallRV (As := [.ref (ad2 11 u2)]) (rest := []) X hml hK ⟨hW, hW2⟩ (ctX1_isTriedLike l D cy ad σ ad2 ρ u1 hi_u1 u2 hi_u2 e3) zmX1_isTriedLike (by decide) m_613 (zrecv hK (hW 11 u1 rfl hi_u1) rfl) ⟨Nat.le_of_ble_eq_true rfl, Nat.le_of_ble_eq_true rfl⟩ ⟨Nat.zero_le _, Nat.zero_le _⟩ rfl hl.1 rfl (Nat.le_of_ble_eq_true rfl) dX1_isLike_18 ?_
  refine zb_eq (tgt := 28) hx hb dX1_isLike_21 (by decide) (fun h => absurd h (by decide)) (fun _ => ?_)
  refine lv_iconst (v := 1) hx hb dX1_isLike_24 (by decide) ?_
  refine lv_goto (tgt := 29) hx hb dX1_isLike_25 (by decide) ?_
  exact ze_z hx hb hr hlocks rfl dX1_isLike_29
def lkL (σ ρ : zS) (i j : Nat) : Prop := zI σ 400 i = zI ρ 400 j ∧ zI σ 401 i = zI ρ 401 j ∧ ∀ q, q < 6 → q < (zI σ 400 i).toNatClampNeg → zA σ 14 i q = zA ρ 14 j q ∧ zA σ 15 i q = zA ρ 15 j q
theorem zmX4_isLike : zmV yX4_isLike RX4 cX4_isLike 3 (some .boolean) 1 := ⟨m_622, m_623, m_6, m_624, rfl, by decide, by decide, by decide +kernel⟩
set_option maxRecDepth 100000 in
set_option maxHeartbeats 4000000 in
theorem ctX4_isLike (l : Launch) (D : va_G) (cy : Nat → ClassId) (ad : Nat → Nat → Nat) (σ : zS) (ad2 : Nat → Nat → Nat) (ρ : zS) (u1 : Nat) (hi_u1 : u1 < 30) (u2 : Nat) (hi_u2 : u2 < 30) (hL : lkL σ ρ u1 u2) (h7 : vp_in (zI σ 400 u1) 7) : Met l yX4_isLike (zw yX4_isLike cX4_isLike 3 (some .boolean)) (zrm 0) (va_Pc [.ref (ad 13 u1), .ref (ad2 13 u2)] (zB D cy (fun H => zW D cy ad zsL σ H ∧ zW D cy ad2 zsL ρ H))) (zqR (.int (bI true))) 0 0 (fun _ => False) := by
  refine zmet (by decide) rfl (Nat.le_of_ble_eq_true rfl) rfl (fun p e s m below meth c ls X hml hr hlocks hv hl => ?_)
  obtain ⟨hK, hW, hW2⟩ := hv
  obtain ⟨hx, hb, -, -⟩ := id X
  have hl : lv_has ls 3 [(0, .ref (ad 13 u1)), (1, .ref (ad2 13 u2))] := hl
  obtain ⟨e1, e2, e3⟩ := hL
  obtain ⟨t, ht, hte⟩ := vp_in_of h7 (by decide)
  rw [hte, nI_clamp (by omega)] at e3
  refine lv_aload_n hx hb dX4_isLike_0 rfl (lv_at hl 0 rfl) ?_
  refine zg4_0 X hK hW hi_u1 m_185 dX4_isLike_1 ?_
  refine lv_aload_n hx hb dX4_isLike_4 rfl (lv_at hl 1 rfl) ?_
  refine zg4_0 X hK hW2 hi_u2 m_185 dX4_isLike_5 ?_
  refine lv_icmp_ne (tgt := 22) hx hb dX4_isLike_8 (by decide) (fun h => absurd h (not_not_intro e1)) (fun b1 => ?_)
  refine lv_aload_n hx hb dX4_isLike_11 rfl (lv_at hl 0 rfl) ?_
  refine zg4_1 X hK hW hi_u1 m_188 dX4_isLike_12 ?_
  refine lv_aload_n hx hb dX4_isLike_15 rfl (lv_at hl 1 rfl) ?_
  refine zg4_1 X hK hW2 hi_u2 m_188 dX4_isLike_16 ?_
  refine lv_icmp_eq (tgt := 24) hx hb dX4_isLike_19 (by decide) (fun b2 => ?_) (fun h => absurd e2 h)
  refine lv_iconst (v := 0) hx hb dX4_isLike_24 (by decide) ?_
  refine lv_istore_n (lv' := [(2, .int 0), (0, .ref (ad 13 u1)), (1, .ref (ad2 13 u2))]) hx hb dX4_isLike_25 rfl hl (by decide) rfl (fun ls hl => ?_)
  have loop26 : ∀ (n : Nat) (k : Nat) (ls : Array Slot), lv_has ls 3 [(0, .ref (ad 13 u1)), (1, .ref (ad2 13 u2)), (2, .int (nI k))] → 7 - k < n → (k ≤ 6) → W p l e (zrm 0) s m ([.ref (ad 13 u1), .ref (ad2 13 u2)] : List Value).toArray below meth c s.heap [] 0 0 (MQ below (zqR (.int (bI true))) ([.ref (ad 13 u1), .ref (ad2 13 u2)] : List Value).toArray s 0 0 (fun _ => False)) (F0 m 26 ls []) := by
    intro n
    induction n with
    | zero => intro k ls hl hm hk; exact absurd hm (Nat.not_lt_zero _)
    | succ n ih26 =>
      intro k ls hl hm hk
      refine lv_iload_n hx hb dX4_isLike_26 rfl (lv_at hl 2 rfl) ?_
      refine lv_aload_n hx hb dX4_isLike_27 rfl (lv_at hl 0 rfl) ?_
      refine zg4_0 X hK hW hi_u1 m_185 dX4_isLike_28 ?_
      refine lv_icmp_ge (tgt := 78) hx hb dX4_isLike_31 (by decide) (fun b3 => ?_) (fun b3 => ?_)
      · refine lv_iconst (v := 1) hx hb dX4_isLike_78 (by decide) ?_
        exact ze_z hx hb hr hlocks rfl dX4_isLike_79
      · have hkt : k < t := (nI_ltI (by omega) (by omega)).mp (by rw [← hte]; exact Int32.not_le.mp b3)
        refine lv_iload_n hx hb dX4_isLike_34 rfl (lv_at hl 2 rfl) ?_
        refine lv_bipush (v := 6) hx hb dX4_isLike_35 (by decide) ?_
        refine lv_icmp_ge (tgt := 78) hx hb dX4_isLike_37 (by decide) (fun b4 => ?_) (fun b4 => ?_)
        · refine lv_iconst (v := 1) hx hb dX4_isLike_78 (by decide) ?_
          exact ze_z hx hb hr hlocks rfl dX4_isLike_79
        · have hlt : k < 6 := zlt_c (by decide) hk b4
          refine lv_aload_n hx hb dX4_isLike_40 rfl (lv_at hl 0 rfl) ?_
          refine zg4_2 X hK hW hi_u1 m_191 dX4_isLike_41 ?_
          refine lv_iload_n hx hb dX4_isLike_44 rfl (lv_at hl 2 rfl) ?_
          refine zan14 X hK hW hi_u1 (by omega) dX4_isLike_45 ?_
          refine lv_aload_n hx hb dX4_isLike_46 rfl (lv_at hl 1 rfl) ?_
          refine zg4_2 X hK hW2 hi_u2 m_191 dX4_isLike_47 ?_
          refine lv_iload_n hx hb dX4_isLike_50 rfl (lv_at hl 2 rfl) ?_
          refine zan14 X hK hW2 hi_u2 (by omega) dX4_isLike_51 ?_
          refine lv_icmp_ne (tgt := 70) hx hb dX4_isLike_52 (by decide) (fun h => absurd h (not_not_intro (e3 k hlt hkt).1)) (fun b5 => ?_)
          refine lv_aload_n hx hb dX4_isLike_55 rfl (lv_at hl 0 rfl) ?_
          refine zg4_3 X hK hW hi_u1 m_194 dX4_isLike_56 ?_
          refine lv_iload_n hx hb dX4_isLike_59 rfl (lv_at hl 2 rfl) ?_
          refine zan15 X hK hW hi_u1 (by omega) dX4_isLike_60 ?_
          refine lv_aload_n hx hb dX4_isLike_61 rfl (lv_at hl 1 rfl) ?_
          refine zg4_3 X hK hW2 hi_u2 m_194 dX4_isLike_62 ?_
          refine lv_iload_n hx hb dX4_isLike_65 rfl (lv_at hl 2 rfl) ?_
          refine zan15 X hK hW2 hi_u2 (by omega) dX4_isLike_66 ?_
          refine lv_icmp_eq (tgt := 72) hx hb dX4_isLike_67 (by decide) (fun b6 => ?_) (fun h => absurd (e3 k hlt hkt).2 h)
          refine lv_iinc (v := nI (k + 1)) (lv' := [(2, .int (nI (k + 1))), (0, .ref (ad 13 u1)), (1, .ref (ad2 13 u2))]) hx hb dX4_isLike_72 hl (k := 2) rfl (nI_1 k) (by decide) rfl (fun ls hl => ?_)
          refine lv_goto (tgt := 26) hx hb dX4_isLike_75 (by decide) ?_
          exact ih26 (k + 1) _ (lv_sub hl [1, 2, 0] rfl) (by omega) hlt
  exact loop26 _ 0 _ (lv_sub hl [1, 2, 0] rfl) (Nat.lt_succ_self _) (Nat.zero_le _)
def lkB (σ ρ : zS) : Prop := zI σ 0 0 = zI ρ 0 0 ∧ (∀ q, q < zn σ 0 → zA σ 6 0 q = zA ρ 6 0 q ∧ zA σ 7 0 q = zA ρ 7 0 q ∧ zA σ 8 0 q = zA ρ 8 0 q) ∧ ∀ q, q < zn σ 0 * 5 → zA σ 9 0 q = zA ρ 9 0 q
theorem zlt5 {σ : zS} {k : Nat} (hc : zbd σ 0 86) (hk : k ≤ zn σ 0 * 5) (h : ¬ zI σ 0 0 * 5 ≤ nI k) : k < zn σ 0 * 5 := by
  have := hc.2
  rw [hc.1, show (5 : Int32) = nI 5 from rfl, pk_mul] at h
  exact (nI_ltI (b := zn σ 0 * 5) (by omega) (by omega)).mp (Int32.not_le.mp h)
theorem zmX0_isLike : zmV yX0_isLike RX0 cX0_isLike 3 (some .boolean) 1 := ⟨m_634, m_635, m_3, m_636, rfl, by decide, by decide, by decide +kernel⟩
set_option maxRecDepth 100000 in
set_option maxHeartbeats 4000000 in
theorem ctX0_isLike (l : Launch) (D : va_G) (cy : Nat → ClassId) (ad : Nat → Nat → Nat) (σ : zS) (ad2 : Nat → Nat → Nat) (ρ : zS) (hL : lkB σ ρ) (hc : zbd σ 0 86) : Met l yX0_isLike (zw yX0_isLike cX0_isLike 3 (some .boolean)) (zrm 0) (va_Pc [.ref (ad 5 0), .ref (ad2 5 0)] (zB D cy (fun H => zW D cy ad zsL σ H ∧ zW D cy ad2 zsL ρ H))) (zqR (.int (bI true))) 0 0 (fun _ => False) := by
  refine zmet (by decide) rfl (Nat.le_of_ble_eq_true rfl) rfl (fun p e s m below meth c ls X hml hr hlocks hv hl => ?_)
  obtain ⟨hK, hW, hW2⟩ := hv
  obtain ⟨hx, hb, -, -⟩ := id X
  have hl : lv_has ls 3 [(0, .ref (ad 5 0)), (1, .ref (ad2 5 0))] := hl
  obtain ⟨e1, e2, e3⟩ := hL
  have hN := hc.2
  refine lv_aload_n hx hb dX0_isLike_0 rfl (lv_at hl 0 rfl) ?_
  refine zg0_0 X hK hW m_56 dX0_isLike_1 ?_
  refine lv_aload_n hx hb dX0_isLike_4 rfl (lv_at hl 1 rfl) ?_
  refine zg0_0 X hK hW2 m_56 dX0_isLike_5 ?_
  refine lv_icmp_eq (tgt := 13) hx hb dX0_isLike_8 (by decide) (fun b1 => ?_) (fun h => absurd e1 h)
  refine lv_iconst (v := 0) hx hb dX0_isLike_13 (by decide) ?_
  refine lv_istore_n (lv' := [(2, .int 0), (0, .ref (ad 5 0)), (1, .ref (ad2 5 0))]) hx hb dX0_isLike_14 rfl hl (by decide) rfl (fun ls hl => ?_)
  have loop15 : ∀ (n : Nat) (k : Nat) (ls : Array Slot), lv_has ls 3 [(0, .ref (ad 5 0)), (1, .ref (ad2 5 0)), (2, .int (nI k))] → zn σ 0 + 1 - k < n → (k ≤ zn σ 0) → W p l e (zrm 0) s m ([.ref (ad 5 0), .ref (ad2 5 0)] : List Value).toArray below meth c s.heap [] 0 0 (MQ below (zqR (.int (bI true))) ([.ref (ad 5 0), .ref (ad2 5 0)] : List Value).toArray s 0 0 (fun _ => False)) (F0 m 15 ls []) := by
    intro n
    induction n with
    | zero => intro k ls hl hm hk; exact absurd hm (Nat.not_lt_zero _)
    | succ n ih15 =>
      intro k ls hl hm hk
      refine lv_iload_n hx hb dX0_isLike_15 rfl (lv_at hl 2 rfl) ?_
      refine lv_aload_n hx hb dX0_isLike_16 rfl (lv_at hl 0 rfl) ?_
      refine zg0_0 X hK hW m_56 dX0_isLike_17 ?_
      refine lv_icmp_ge (tgt := 76) hx hb dX0_isLike_20 (by decide) (fun b2 => ?_) (fun b2 => ?_)
      · refine lv_iconst (v := 0) hx hb dX0_isLike_76 (by decide) ?_
        refine lv_istore_n (lv' := [(2, .int 0), (0, .ref (ad 5 0)), (1, .ref (ad2 5 0))]) hx hb dX0_isLike_77 rfl hl (by decide) rfl (fun ls hl => ?_)
        have loop78 : ∀ (n : Nat) (k : Nat) (ls : Array Slot), lv_has ls 3 [(0, .ref (ad 5 0)), (1, .ref (ad2 5 0)), (2, .int (nI k))] → zn σ 0 * 5 + 1 - k < n → (k ≤ zn σ 0 * 5) → W p l e (zrm 0) s m ([.ref (ad 5 0), .ref (ad2 5 0)] : List Value).toArray below meth c s.heap [] 0 0 (MQ below (zqR (.int (bI true))) ([.ref (ad 5 0), .ref (ad2 5 0)] : List Value).toArray s 0 0 (fun _ => False)) (F0 m 78 ls []) := by
          intro n
          induction n with
          | zero => intro k ls hl hm hk; exact absurd hm (Nat.not_lt_zero _)
          | succ n ih78 =>
            intro k ls hl hm hk
            refine lv_iload_n hx hb dX0_isLike_78 rfl (lv_at hl 2 rfl) ?_
            refine lv_aload_n hx hb dX0_isLike_79 rfl (lv_at hl 0 rfl) ?_
            refine zg0_0 X hK hW m_56 dX0_isLike_80 ?_
            refine lv_iconst (v := 5) hx hb dX0_isLike_83 (by decide) ?_
            refine lv_imul hx hb dX0_isLike_84 ?_
            refine lv_icmp_ge (tgt := 111) hx hb dX0_isLike_85 (by decide) (fun b3 => ?_) (fun b3 => ?_)
            · refine lv_iconst (v := 1) hx hb dX0_isLike_111 (by decide) ?_
              exact ze_z hx hb hr hlocks rfl dX0_isLike_112
            · have hlt : k < zn σ 0 * 5 := zlt5 hc hk b3
              refine lv_aload_n hx hb dX0_isLike_88 rfl (lv_at hl 0 rfl) ?_
              refine zg0_4 X hK hW m_63 dX0_isLike_89 ?_
              refine lv_iload_n hx hb dX0_isLike_92 rfl (lv_at hl 2 rfl) ?_
              refine zan9 X hK hW (by omega) dX0_isLike_93 ?_
              refine lv_aload_n hx hb dX0_isLike_94 rfl (lv_at hl 1 rfl) ?_
              refine zg0_4 X hK hW2 m_63 dX0_isLike_95 ?_
              refine lv_iload_n hx hb dX0_isLike_98 rfl (lv_at hl 2 rfl) ?_
              refine zan9 X hK hW2 (by omega) dX0_isLike_99 ?_
              refine lv_icmp_eq (tgt := 105) hx hb dX0_isLike_100 (by decide) (fun b4 => ?_) (fun h => absurd (e3 k hlt) h)
              refine lv_iinc (v := nI (k + 1)) (lv' := [(2, .int (nI (k + 1))), (0, .ref (ad 5 0)), (1, .ref (ad2 5 0))]) hx hb dX0_isLike_105 hl (k := 2) rfl (nI_1 k) (by decide) rfl (fun ls hl => ?_)
              refine lv_goto (tgt := 78) hx hb dX0_isLike_108 (by decide) ?_
              exact ih78 (k + 1) _ (lv_sub hl [1, 2, 0] rfl) (by omega) hlt
        exact loop78 _ 0 _ (lv_sub hl [1, 2, 0] rfl) (Nat.lt_succ_self _) (Nat.zero_le _)
      · have hlt : k < zn σ 0 := zlt_of hc (by decide) hk b2
        refine lv_aload_n hx hb dX0_isLike_23 rfl (lv_at hl 0 rfl) ?_
        refine zg0_1 X hK hW m_58 dX0_isLike_24 ?_
        refine lv_iload_n hx hb dX0_isLike_27 rfl (lv_at hl 2 rfl) ?_
        refine zan6 X hK hW (by omega) dX0_isLike_28 ?_
        refine lv_aload_n hx hb dX0_isLike_29 rfl (lv_at hl 1 rfl) ?_
        refine zg0_1 X hK hW2 m_58 dX0_isLike_30 ?_
        refine lv_iload_n hx hb dX0_isLike_33 rfl (lv_at hl 2 rfl) ?_
        refine zan6 X hK hW2 (by omega) dX0_isLike_34 ?_
        refine lv_icmp_ne (tgt := 68) hx hb dX0_isLike_35 (by decide) (fun h => absurd h (not_not_intro (e2 k hlt).1)) (fun b5 => ?_)
        refine lv_aload_n hx hb dX0_isLike_38 rfl (lv_at hl 0 rfl) ?_
        refine zg0_2 X hK hW m_59 dX0_isLike_39 ?_
        refine lv_iload_n hx hb dX0_isLike_42 rfl (lv_at hl 2 rfl) ?_
        refine zan7 X hK hW (by omega) dX0_isLike_43 ?_
        refine lv_aload_n hx hb dX0_isLike_44 rfl (lv_at hl 1 rfl) ?_
        refine zg0_2 X hK hW2 m_59 dX0_isLike_45 ?_
        refine lv_iload_n hx hb dX0_isLike_48 rfl (lv_at hl 2 rfl) ?_
        refine zan7 X hK hW2 (by omega) dX0_isLike_49 ?_
        refine lv_icmp_ne (tgt := 68) hx hb dX0_isLike_50 (by decide) (fun h => absurd h (not_not_intro (e2 k hlt).2.1)) (fun b6 => ?_)
        refine lv_aload_n hx hb dX0_isLike_53 rfl (lv_at hl 0 rfl) ?_
        refine zg0_3 X hK hW m_61 dX0_isLike_54 ?_
        refine lv_iload_n hx hb dX0_isLike_57 rfl (lv_at hl 2 rfl) ?_
        refine zan8 X hK hW (by omega) dX0_isLike_58 ?_
        refine lv_aload_n hx hb dX0_isLike_59 rfl (lv_at hl 1 rfl) ?_
        refine zg0_3 X hK hW2 m_61 dX0_isLike_60 ?_
        refine lv_iload_n hx hb dX0_isLike_63 rfl (lv_at hl 2 rfl) ?_
        refine zan8 X hK hW2 (by omega) dX0_isLike_64 ?_
        refine lv_icmp_eq (tgt := 70) hx hb dX0_isLike_65 (by decide) (fun b7 => ?_) (fun h => absurd (e2 k hlt).2.2 h)
        refine lv_iinc (v := nI (k + 1)) (lv' := [(2, .int (nI (k + 1))), (0, .ref (ad 5 0)), (1, .ref (ad2 5 0))]) hx hb dX0_isLike_70 hl (k := 2) rfl (nI_1 k) (by decide) rfl (fun ls hl => ?_)
        refine lv_goto (tgt := 15) hx hb dX0_isLike_73 (by decide) ?_
        exact ih15 (k + 1) _ (lv_sub hl [1, 2, 0] rfl) (by omega) hlt
  exact loop15 _ 0 _ (lv_sub hl [1, 2, 0] rfl) (Nat.lt_succ_self _) (Nat.zero_le _)
def lk_R (σ ρ : zS) : Prop := zI σ 505 0 = zI ρ 505 0 ∧ ∀ q, q < zn σ 505 → lkG σ ρ q q
theorem zmX5_hasRiggersLike : zmV yX5_hasRiggersLike RX5 cX5_hasRiggersLike 3 (some .boolean) 1 := ⟨m_591, s_25, m_2, m_592, rfl, by decide, by decide, by decide +kernel⟩
set_option maxRecDepth 100000 in
set_option maxHeartbeats 4000000 in
theorem ctX5_hasRiggersLike (l : Launch) (D : va_G) (cy : Nat → ClassId) (ad : Nat → Nat → Nat) (σ : zS) (ad2 : Nat → Nat → Nat) (ρ : zS) (hL : lk_R σ ρ) (hV : zV σ) : Met l yX5_hasRiggersLike (zw yX5_hasRiggersLike cX5_hasRiggersLike 3 (some .boolean)) (zrm 1) (va_Pc [.ref (ad 0 0), .ref (ad2 0 0)] (zB D cy (fun H => zW D cy ad zsL σ H ∧ zW D cy ad2 zsL ρ H))) (zqR (.int (bI true))) 0 0 (fun _ => False) := by
  refine zmet (by decide) rfl (Nat.le_of_ble_eq_true rfl) rfl (fun p e s m below meth c ls X hml hr hlocks hv hl => ?_)
  obtain ⟨hK, hW, hW2⟩ := hv
  obtain ⟨hx, hb, -, -⟩ := id X
  have hl : lv_has ls 3 [(0, .ref (ad 0 0)), (1, .ref (ad2 0 0))] := hl
  refine lv_aload_n hx hb dX5_hasRiggersLike_0 rfl (lv_at hl 0 rfl) ?_
  refine zg5_5 X hK hW m_255 dX5_hasRiggersLike_1 ?_
  refine lv_aload_n hx hb dX5_hasRiggersLike_4 rfl (lv_at hl 1 rfl) ?_
  refine zg5_5 X hK hW2 m_255 dX5_hasRiggersLike_5 ?_
  refine lv_icmp_eq (tgt := 13) hx hb dX5_hasRiggersLike_8 (by decide) (fun b1 => ?_) (fun h => absurd hL.1 h)
  refine lv_iconst (v := 0) hx hb dX5_hasRiggersLike_13 (by decide) ?_
  refine lv_istore_n (lv' := [(2, .int 0), (0, .ref (ad 0 0)), (1, .ref (ad2 0 0))]) hx hb dX5_hasRiggersLike_14 rfl hl (by decide) rfl (fun ls hl => ?_)
  have loop15 : ∀ (n : Nat) (k : Nat) (ls : Array Slot), lv_has ls 3 [(0, .ref (ad 0 0)), (1, .ref (ad2 0 0)), (2, .int (nI k))] → zn σ 505 + 1 - k < n → (k ≤ zn σ 505) → W p l e (zrm 1) s m ([.ref (ad 0 0), .ref (ad2 0 0)] : List Value).toArray below meth c s.heap [] 0 0 (MQ below (zqR (.int (bI true))) ([.ref (ad 0 0), .ref (ad2 0 0)] : List Value).toArray s 0 0 (fun _ => False)) (F0 m 15 ls []) := by
    intro n
    induction n with
    | zero => intro k ls hl hm hk; exact absurd hm (Nat.not_lt_zero _)
    | succ n ih15 =>
      intro k ls hl hm hk
      refine lv_iload_n hx hb dX5_hasRiggersLike_15 rfl (lv_at hl 2 rfl) ?_
      refine lv_aload_n hx hb dX5_hasRiggersLike_16 rfl (lv_at hl 0 rfl) ?_
      refine zg5_5 X hK hW m_255 dX5_hasRiggersLike_17 ?_
      refine lv_icmp_ge (tgt := 49) hx hb dX5_hasRiggersLike_20 (by decide) (fun b2 => ?_) (fun b2 => ?_)
      · refine lv_iconst (v := 1) hx hb dX5_hasRiggersLike_49 (by decide) ?_
        exact ze_z hx hb hr hlocks rfl dX5_hasRiggersLike_50
      · have hlt : k < zn σ 505 := zlt_of hV.1 (by decide) hk b2
        have hltN := Nat.lt_of_lt_of_le hlt hV.1.2
        refine lv_aload_n hx hb dX5_hasRiggersLike_23 rfl (lv_at hl 0 rfl) ?_
        refine zg5_0 X hK hW m_244 dX5_hasRiggersLike_24 ?_
        refine lv_iload_n hx hb dX5_hasRiggersLike_27 rfl (lv_at hl 2 rfl) ?_
        refine zrn1 X hK hW hltN dX5_hasRiggersLike_28 ?_
        refine lv_aload_n hx hb dX5_hasRiggersLike_29 rfl (lv_at hl 1 rfl) ?_
        refine zg5_0 X hK hW2 m_244 dX5_hasRiggersLike_30 ?_
        refine lv_iload_n hx hb dX5_hasRiggersLike_33 rfl (lv_at hl 2 rfl) ?_
        refine zrn1 X hK hW2 hltN dX5_hasRiggersLike_34 ?_
        refine zcallRV (As := [.ref (ad2 10 k)]) (rest := []) X hml hK ⟨hW, hW2⟩ (ctX7_isLike l D cy ad σ ad2 ρ k hltN k hltN (hL.2 k hlt)) zmX7_isLike (by decide) m_593 (zrecv hK (hW 10 k rfl hltN) rfl) ⟨Nat.le_of_ble_eq_true rfl, Nat.le_of_ble_eq_true rfl⟩ ⟨Nat.zero_le _, Nat.zero_le _⟩ rfl hl.1 rfl (Nat.le_of_ble_eq_true rfl) dX5_hasRiggersLike_35 ?_
        refine zb_ne (tgt := 43) hx hb dX5_hasRiggersLike_38 (by decide) (fun _ => ?_) (fun h => absurd h (by decide))
        refine lv_iinc (v := nI (k + 1)) (lv' := [(2, .int (nI (k + 1))), (0, .ref (ad 0 0)), (1, .ref (ad2 0 0))]) hx hb dX5_hasRiggersLike_43 hl (k := 2) rfl (nI_1 k) (by decide) rfl (fun ls hl => ?_)
        refine lv_goto (tgt := 15) hx hb dX5_hasRiggersLike_46 (by decide) ?_
        exact ih15 (k + 1) _ (lv_sub hl [1, 2, 0] rfl) (by omega) hlt
  exact loop15 _ 0 _ (lv_sub hl [1, 2, 0] rfl) (Nat.lt_succ_self _) (Nat.zero_le _)
def lk_C (σ ρ : zS) : Prop := zI σ 506 0 = zI ρ 506 0 ∧ ∀ q, q < zn σ 506 → lkC σ ρ q q ∧ vp_in (zI σ 107 q) 6 ∧ k_down σ q = k_down ρ q
theorem zmX5_hasCanopiesLike : zmV yX5_hasCanopiesLike RX5 cX5_hasCanopiesLike 3 (some .boolean) 1 := ⟨m_599, s_26, m_2, m_600, rfl, by decide, by decide, by decide +kernel⟩
set_option maxRecDepth 100000 in
set_option maxHeartbeats 4000000 in
theorem ctX5_hasCanopiesLike (l : Launch) (D : va_G) (cy : Nat → ClassId) (ad : Nat → Nat → Nat) (σ : zS) (ad2 : Nat → Nat → Nat) (ρ : zS) (hL : lk_C σ ρ) (hV : zV σ) (hV2 : zV ρ) : Met l yX5_hasCanopiesLike (zw yX5_hasCanopiesLike cX5_hasCanopiesLike 3 (some .boolean)) (zrm 4) (va_Pc [.ref (ad 0 0), .ref (ad2 0 0)] (zB D cy (fun H => zW D cy ad zsL σ H ∧ zW D cy ad2 zsL ρ H))) (zqR (.int (bI true))) 0 0 (fun _ => False) := by
  refine zmet (by decide) rfl (Nat.le_of_ble_eq_true rfl) rfl (fun p e s m below meth c ls X hml hr hlocks hv hl => ?_)
  obtain ⟨hK, hW, hW2⟩ := hv
  obtain ⟨hx, hb, -, -⟩ := id X
  have hl : lv_has ls 3 [(0, .ref (ad 0 0)), (1, .ref (ad2 0 0))] := hl
  refine lv_aload_n hx hb dX5_hasCanopiesLike_0 rfl (lv_at hl 0 rfl) ?_
  refine zg5_6 X hK hW m_257 dX5_hasCanopiesLike_1 ?_
  refine lv_aload_n hx hb dX5_hasCanopiesLike_4 rfl (lv_at hl 1 rfl) ?_
  refine zg5_6 X hK hW2 m_257 dX5_hasCanopiesLike_5 ?_
  refine lv_icmp_eq (tgt := 13) hx hb dX5_hasCanopiesLike_8 (by decide) (fun b1 => ?_) (fun h => absurd hL.1 h)
  refine lv_iconst (v := 0) hx hb dX5_hasCanopiesLike_13 (by decide) ?_
  refine lv_istore_n (lv' := [(2, .int 0), (0, .ref (ad 0 0)), (1, .ref (ad2 0 0))]) hx hb dX5_hasCanopiesLike_14 rfl hl (by decide) rfl (fun ls hl => ?_)
  have loop15 : ∀ (n : Nat) (k : Nat) (ls : Array Slot), lv_has ls 3 [(0, .ref (ad 0 0)), (1, .ref (ad2 0 0)), (2, .int (nI k))] → zn σ 506 + 1 - k < n → (k ≤ zn σ 506) → W p l e (zrm 4) s m ([.ref (ad 0 0), .ref (ad2 0 0)] : List Value).toArray below meth c s.heap [] 0 0 (MQ below (zqR (.int (bI true))) ([.ref (ad 0 0), .ref (ad2 0 0)] : List Value).toArray s 0 0 (fun _ => False)) (F0 m 15 ls []) := by
    intro n
    induction n with
    | zero => intro k ls hl hm hk; exact absurd hm (Nat.not_lt_zero _)
    | succ n ih15 =>
      intro k ls hl hm hk
      refine lv_iload_n hx hb dX5_hasCanopiesLike_15 rfl (lv_at hl 2 rfl) ?_
      refine lv_aload_n hx hb dX5_hasCanopiesLike_16 rfl (lv_at hl 0 rfl) ?_
      refine zg5_6 X hK hW m_257 dX5_hasCanopiesLike_17 ?_
      refine lv_icmp_ge (tgt := 62) hx hb dX5_hasCanopiesLike_20 (by decide) (fun b2 => ?_) (fun b2 => ?_)
      · refine lv_iconst (v := 1) hx hb dX5_hasCanopiesLike_62 (by decide) ?_
        exact ze_z hx hb hr hlocks rfl dX5_hasCanopiesLike_63
      · have hlt : k < zn σ 506 := zlt_of hV.2.1 (by decide) hk b2
        have hltN := Nat.lt_of_lt_of_le hlt hV.2.1.2
        refine lv_aload_n hx hb dX5_hasCanopiesLike_23 rfl (lv_at hl 0 rfl) ?_
        refine zg5_1 X hK hW m_246 dX5_hasCanopiesLike_24 ?_
        refine lv_iload_n hx hb dX5_hasCanopiesLike_27 rfl (lv_at hl 2 rfl) ?_
        refine zrn2 X hK hW hltN dX5_hasCanopiesLike_28 ?_
        refine lv_aload_n hx hb dX5_hasCanopiesLike_29 rfl (lv_at hl 1 rfl) ?_
        refine zg5_1 X hK hW2 m_246 dX5_hasCanopiesLike_30 ?_
        refine lv_iload_n hx hb dX5_hasCanopiesLike_33 rfl (lv_at hl 2 rfl) ?_
        refine zrn2 X hK hW2 hltN dX5_hasCanopiesLike_34 ?_
        refine zcallRV (As := [.ref (ad2 11 k)]) (rest := []) X hml hK ⟨hW, hW2⟩ (ctX1_isLike l D cy ad σ ad2 ρ k hltN k hltN (hL.2 k hlt).1 (hL.2 k hlt).2.1) zmX1_isLike (by decide) m_601 (zrecv hK (hW 11 k rfl hltN) rfl) ⟨Nat.le_of_ble_eq_true rfl, Nat.le_of_ble_eq_true rfl⟩ ⟨Nat.zero_le _, Nat.zero_le _⟩ rfl hl.1 rfl (Nat.le_of_ble_eq_true rfl) dX5_hasCanopiesLike_35 ?_
        refine zb_eq (tgt := 54) hx hb dX5_hasCanopiesLike_38 (by decide) (fun h => absurd h (by decide)) (fun _ => ?_)
        refine lv_aload_n hx hb dX5_hasCanopiesLike_41 rfl (lv_at hl 0 rfl) ?_
        refine lv_iload_n hx hb dX5_hasCanopiesLike_42 rfl (lv_at hl 2 rfl) ?_
        refine zcallRV (As := [.int (nI k)]) (rest := []) X hml hK hW (ctX5_isOnGround l D cy ad σ k (by omega) hV) zmX5_isOnGround (by decide) m_416 (zrecv hK (hW 0 0 rfl (by decide)) rfl) ⟨Nat.le_of_ble_eq_true rfl, Nat.le_of_ble_eq_true rfl⟩ ⟨Nat.zero_le _, Nat.zero_le _⟩ rfl hl.1 rfl (Nat.le_of_ble_eq_true rfl) dX5_hasCanopiesLike_43 ?_
        refine lv_aload_n hx hb dX5_hasCanopiesLike_46 rfl (lv_at hl 1 rfl) ?_
        refine lv_iload_n hx hb dX5_hasCanopiesLike_47 rfl (lv_at hl 2 rfl) ?_
        refine zcallRV (As := [.int (nI k)]) (rest := [.int (bI (k_down σ k))]) X hml hK hW2 (ctX5_isOnGround l D cy ad2 ρ k (by omega) hV2) zmX5_isOnGround (by decide) m_416 (zrecv hK (hW2 0 0 rfl (by decide)) rfl) ⟨Nat.le_of_ble_eq_true rfl, Nat.le_of_ble_eq_true rfl⟩ ⟨Nat.zero_le _, Nat.zero_le _⟩ rfl hl.1 rfl (Nat.le_of_ble_eq_true rfl) dX5_hasCanopiesLike_48 ?_
        refine lv_icmp_eq (tgt := 56) hx hb dX5_hasCanopiesLike_51 (by decide) (fun b4 => ?_) (fun h => absurd (by rw [(hL.2 k hlt).2.2]) h)
        refine lv_iinc (v := nI (k + 1)) (lv' := [(2, .int (nI (k + 1))), (0, .ref (ad 0 0)), (1, .ref (ad2 0 0))]) hx hb dX5_hasCanopiesLike_56 hl (k := 2) rfl (nI_1 k) (by decide) rfl (fun ls hl => ?_)
        refine lv_goto (tgt := 15) hx hb dX5_hasCanopiesLike_59 (by decide) ?_
        exact ih15 (k + 1) _ (lv_sub hl [1, 2, 0] rfl) (by omega) hlt
  exact loop15 _ 0 _ (lv_sub hl [1, 2, 0] rfl) (Nat.lt_succ_self _) (Nat.zero_le _)
def lk_L (σ ρ : zS) : Prop := zI σ 507 0 = zI ρ 507 0 ∧ ∀ q, q < zn σ 507 → lkL σ ρ q q ∧ vp_in (zI σ 400 q) 7
theorem zmX5_hasLoadsLike : zmV yX5_hasLoadsLike RX5 cX5_hasLoadsLike 3 (some .boolean) 1 := ⟨m_619, s_30, m_2, m_620, rfl, by decide, by decide, by decide +kernel⟩
set_option maxRecDepth 100000 in
set_option maxHeartbeats 4000000 in
theorem ctX5_hasLoadsLike (l : Launch) (D : va_G) (cy : Nat → ClassId) (ad : Nat → Nat → Nat) (σ : zS) (ad2 : Nat → Nat → Nat) (ρ : zS) (hL : lk_L σ ρ) (hV : zV σ) : Met l yX5_hasLoadsLike (zw yX5_hasLoadsLike cX5_hasLoadsLike 3 (some .boolean)) (zrm 1) (va_Pc [.ref (ad 0 0), .ref (ad2 0 0)] (zB D cy (fun H => zW D cy ad zsL σ H ∧ zW D cy ad2 zsL ρ H))) (zqR (.int (bI true))) 0 0 (fun _ => False) := by
  refine zmet (by decide) rfl (Nat.le_of_ble_eq_true rfl) rfl (fun p e s m below meth c ls X hml hr hlocks hv hl => ?_)
  obtain ⟨hK, hW, hW2⟩ := hv
  obtain ⟨hx, hb, -, -⟩ := id X
  have hl : lv_has ls 3 [(0, .ref (ad 0 0)), (1, .ref (ad2 0 0))] := hl
  refine lv_aload_n hx hb dX5_hasLoadsLike_0 rfl (lv_at hl 0 rfl) ?_
  refine zg5_7 X hK hW m_260 dX5_hasLoadsLike_1 ?_
  refine lv_aload_n hx hb dX5_hasLoadsLike_4 rfl (lv_at hl 1 rfl) ?_
  refine zg5_7 X hK hW2 m_260 dX5_hasLoadsLike_5 ?_
  refine lv_icmp_eq (tgt := 13) hx hb dX5_hasLoadsLike_8 (by decide) (fun b1 => ?_) (fun h => absurd hL.1 h)
  refine lv_iconst (v := 0) hx hb dX5_hasLoadsLike_13 (by decide) ?_
  refine lv_istore_n (lv' := [(2, .int 0), (0, .ref (ad 0 0)), (1, .ref (ad2 0 0))]) hx hb dX5_hasLoadsLike_14 rfl hl (by decide) rfl (fun ls hl => ?_)
  have loop15 : ∀ (n : Nat) (k : Nat) (ls : Array Slot), lv_has ls 3 [(0, .ref (ad 0 0)), (1, .ref (ad2 0 0)), (2, .int (nI k))] → zn σ 507 + 1 - k < n → (k ≤ zn σ 507) → W p l e (zrm 1) s m ([.ref (ad 0 0), .ref (ad2 0 0)] : List Value).toArray below meth c s.heap [] 0 0 (MQ below (zqR (.int (bI true))) ([.ref (ad 0 0), .ref (ad2 0 0)] : List Value).toArray s 0 0 (fun _ => False)) (F0 m 15 ls []) := by
    intro n
    induction n with
    | zero => intro k ls hl hm hk; exact absurd hm (Nat.not_lt_zero _)
    | succ n ih15 =>
      intro k ls hl hm hk
      refine lv_iload_n hx hb dX5_hasLoadsLike_15 rfl (lv_at hl 2 rfl) ?_
      refine lv_aload_n hx hb dX5_hasLoadsLike_16 rfl (lv_at hl 0 rfl) ?_
      refine zg5_7 X hK hW m_260 dX5_hasLoadsLike_17 ?_
      refine lv_icmp_ge (tgt := 49) hx hb dX5_hasLoadsLike_20 (by decide) (fun b2 => ?_) (fun b2 => ?_)
      · refine lv_iconst (v := 1) hx hb dX5_hasLoadsLike_49 (by decide) ?_
        exact ze_z hx hb hr hlocks rfl dX5_hasLoadsLike_50
      · have hlt : k < zn σ 507 := zlt_of hV.2.2.1 (by decide) hk b2
        have hltN := Nat.lt_of_lt_of_le hlt hV.2.2.1.2
        refine lv_aload_n hx hb dX5_hasLoadsLike_23 rfl (lv_at hl 0 rfl) ?_
        refine zg5_2 X hK hW m_249 dX5_hasLoadsLike_24 ?_
        refine lv_iload_n hx hb dX5_hasLoadsLike_27 rfl (lv_at hl 2 rfl) ?_
        refine zrn3 X hK hW hltN dX5_hasLoadsLike_28 ?_
        refine lv_aload_n hx hb dX5_hasLoadsLike_29 rfl (lv_at hl 1 rfl) ?_
        refine zg5_2 X hK hW2 m_249 dX5_hasLoadsLike_30 ?_
        refine lv_iload_n hx hb dX5_hasLoadsLike_33 rfl (lv_at hl 2 rfl) ?_
        refine zrn3 X hK hW2 hltN dX5_hasLoadsLike_34 ?_
        refine zcallRV (As := [.ref (ad2 13 k)]) (rest := []) X hml hK ⟨hW, hW2⟩ (ctX4_isLike l D cy ad σ ad2 ρ k hltN k hltN (hL.2 k hlt).1 (hL.2 k hlt).2) zmX4_isLike (by decide) m_621 (zrecv hK (hW 13 k rfl hltN) rfl) ⟨Nat.le_of_ble_eq_true rfl, Nat.le_of_ble_eq_true rfl⟩ ⟨Nat.zero_le _, Nat.zero_le _⟩ rfl hl.1 rfl (Nat.le_of_ble_eq_true rfl) dX5_hasLoadsLike_35 ?_
        refine zb_ne (tgt := 43) hx hb dX5_hasLoadsLike_38 (by decide) (fun _ => ?_) (fun h => absurd h (by decide))
        refine lv_iinc (v := nI (k + 1)) (lv' := [(2, .int (nI (k + 1))), (0, .ref (ad 0 0)), (1, .ref (ad2 0 0))]) hx hb dX5_hasLoadsLike_43 hl (k := 2) rfl (nI_1 k) (by decide) rfl (fun ls hl => ?_)
        refine lv_goto (tgt := 15) hx hb dX5_hasLoadsLike_46 (by decide) ?_
        exact ih15 (k + 1) _ (lv_sub hl [1, 2, 0] rfl) (by omega) hlt
  exact loop15 _ 0 _ (lv_sub hl [1, 2, 0] rfl) (Nat.lt_succ_self _) (Nat.zero_le _)
def lk_F (σ ρ : zS) : Prop := zI σ 508 0 = zI ρ 508 0 ∧ ∀ q, q < zn σ 508 → lkF σ ρ q q
theorem zmX5_hasFindingsLike : zmV yX5_hasFindingsLike RX5 cX5_hasFindingsLike 3 (some .boolean) 1 := ⟨m_627, s_31, m_2, m_628, rfl, by decide, by decide, by decide +kernel⟩
set_option maxRecDepth 100000 in
set_option maxHeartbeats 4000000 in
theorem ctX5_hasFindingsLike (l : Launch) (D : va_G) (cy : Nat → ClassId) (ad : Nat → Nat → Nat) (σ : zS) (ad2 : Nat → Nat → Nat) (ρ : zS) (hL : lk_F σ ρ) (hV : zV σ) : Met l yX5_hasFindingsLike (zw yX5_hasFindingsLike cX5_hasFindingsLike 3 (some .boolean)) (zrm 1) (va_Pc [.ref (ad 0 0), .ref (ad2 0 0)] (zB D cy (fun H => zW D cy ad zsL σ H ∧ zW D cy ad2 zsL ρ H))) (zqR (.int (bI true))) 0 0 (fun _ => False) := by
  refine zmet (by decide) rfl (Nat.le_of_ble_eq_true rfl) rfl (fun p e s m below meth c ls X hml hr hlocks hv hl => ?_)
  obtain ⟨hK, hW, hW2⟩ := hv
  obtain ⟨hx, hb, -, -⟩ := id X
  have hl : lv_has ls 3 [(0, .ref (ad 0 0)), (1, .ref (ad2 0 0))] := hl
  refine lv_aload_n hx hb dX5_hasFindingsLike_0 rfl (lv_at hl 0 rfl) ?_
  refine zg5_8 X hK hW m_262 dX5_hasFindingsLike_1 ?_
  refine lv_aload_n hx hb dX5_hasFindingsLike_4 rfl (lv_at hl 1 rfl) ?_
  refine zg5_8 X hK hW2 m_262 dX5_hasFindingsLike_5 ?_
  refine lv_icmp_eq (tgt := 13) hx hb dX5_hasFindingsLike_8 (by decide) (fun b1 => ?_) (fun h => absurd hL.1 h)
  refine lv_iconst (v := 0) hx hb dX5_hasFindingsLike_13 (by decide) ?_
  refine lv_istore_n (lv' := [(2, .int 0), (0, .ref (ad 0 0)), (1, .ref (ad2 0 0))]) hx hb dX5_hasFindingsLike_14 rfl hl (by decide) rfl (fun ls hl => ?_)
  have loop15 : ∀ (n : Nat) (k : Nat) (ls : Array Slot), lv_has ls 3 [(0, .ref (ad 0 0)), (1, .ref (ad2 0 0)), (2, .int (nI k))] → zn σ 508 + 1 - k < n → (k ≤ zn σ 508) → W p l e (zrm 1) s m ([.ref (ad 0 0), .ref (ad2 0 0)] : List Value).toArray below meth c s.heap [] 0 0 (MQ below (zqR (.int (bI true))) ([.ref (ad 0 0), .ref (ad2 0 0)] : List Value).toArray s 0 0 (fun _ => False)) (F0 m 15 ls []) := by
    intro n
    induction n with
    | zero => intro k ls hl hm hk; exact absurd hm (Nat.not_lt_zero _)
    | succ n ih15 =>
      intro k ls hl hm hk
      refine lv_iload_n hx hb dX5_hasFindingsLike_15 rfl (lv_at hl 2 rfl) ?_
      refine lv_aload_n hx hb dX5_hasFindingsLike_16 rfl (lv_at hl 0 rfl) ?_
      refine zg5_8 X hK hW m_262 dX5_hasFindingsLike_17 ?_
      refine lv_icmp_ge (tgt := 49) hx hb dX5_hasFindingsLike_20 (by decide) (fun b2 => ?_) (fun b2 => ?_)
      · refine lv_iconst (v := 1) hx hb dX5_hasFindingsLike_49 (by decide) ?_
        exact ze_z hx hb hr hlocks rfl dX5_hasFindingsLike_50
      · have hlt : k < zn σ 508 := zlt_of hV.2.2.2.1 (by decide) hk b2
        have hltN := Nat.lt_of_lt_of_le hlt hV.2.2.2.1.2
        refine lv_aload_n hx hb dX5_hasFindingsLike_23 rfl (lv_at hl 0 rfl) ?_
        refine zg5_3 X hK hW m_251 dX5_hasFindingsLike_24 ?_
        refine lv_iload_n hx hb dX5_hasFindingsLike_27 rfl (lv_at hl 2 rfl) ?_
        refine zrn4 X hK hW hltN dX5_hasFindingsLike_28 ?_
        refine lv_aload_n hx hb dX5_hasFindingsLike_29 rfl (lv_at hl 1 rfl) ?_
        refine zg5_3 X hK hW2 m_251 dX5_hasFindingsLike_30 ?_
        refine lv_iload_n hx hb dX5_hasFindingsLike_33 rfl (lv_at hl 2 rfl) ?_
        refine zrn4 X hK hW2 hltN dX5_hasFindingsLike_34 ?_
        refine zcallRV (As := [.ref (ad2 16 k)]) (rest := []) X hml hK ⟨hW, hW2⟩ (ctX3_isLike l D cy ad σ ad2 ρ k hltN k hltN (hL.2 k hlt)) zmX3_isLike (by decide) m_629 (zrecv hK (hW 16 k rfl hltN) rfl) ⟨Nat.le_of_ble_eq_true rfl, Nat.le_of_ble_eq_true rfl⟩ ⟨Nat.zero_le _, Nat.zero_le _⟩ rfl hl.1 rfl (Nat.le_of_ble_eq_true rfl) dX5_hasFindingsLike_35 ?_
        refine zb_ne (tgt := 43) hx hb dX5_hasFindingsLike_38 (by decide) (fun _ => ?_) (fun h => absurd h (by decide))
        refine lv_iinc (v := nI (k + 1)) (lv' := [(2, .int (nI (k + 1))), (0, .ref (ad 0 0)), (1, .ref (ad2 0 0))]) hx hb dX5_hasFindingsLike_43 hl (k := 2) rfl (nI_1 k) (by decide) rfl (fun ls hl => ?_)
        refine lv_goto (tgt := 15) hx hb dX5_hasFindingsLike_46 (by decide) ?_
        exact ih15 (k + 1) _ (lv_sub hl [1, 2, 0] rfl) (by omega) hlt
  exact loop15 _ 0 _ (lv_sub hl [1, 2, 0] rfl) (Nat.lt_succ_self _) (Nat.zero_le _)
def lkA (σ ρ : zS) : Prop := (zI σ 509 0 = zI ρ 509 0 ∧ zI σ 510 0 = zI ρ 510 0 ∧ zL σ 511 0 = zL ρ 511 0 ∧ zI σ 512 0 = zI ρ 512 0) ∧ lk_R σ ρ ∧ lk_C σ ρ ∧ lk_L σ ρ ∧ lk_F σ ρ ∧ lkB σ ρ
theorem zmX5_isLike : zmV yX5_isLike RX5 cX5_isLike 2 (some .boolean) 1 := ⟨m_586, m_587, m_2, m_588, rfl, by decide, by decide, by decide +kernel⟩
set_option maxRecDepth 100000 in
set_option maxHeartbeats 4000000 in
theorem ctX5_isLike (l : Launch) (D : va_G) (cy : Nat → ClassId) (ad : Nat → Nat → Nat) (σ : zS) (ad2 : Nat → Nat → Nat) (ρ : zS) (hL : lkA σ ρ) (hV : zV σ) (hV2 : zV ρ) : Met l yX5_isLike (zw yX5_isLike cX5_isLike 2 (some .boolean)) (zrm 5) (va_Pc [.ref (ad 0 0), .ref (ad2 0 0)] (zB D cy (fun H => zW D cy ad zsL σ H ∧ zW D cy ad2 zsL ρ H))) (zqR (.int (bI true))) 0 0 (fun _ => False) := by
  refine zmet (by decide) rfl (Nat.le_of_ble_eq_true rfl) rfl (fun p e s m below meth c ls X hml hr hlocks hv hl => ?_)
  obtain ⟨hK, hW, hW2⟩ := hv
  obtain ⟨hx, hb, -, -⟩ := id X
  have hl : lv_has ls 2 [(0, .ref (ad 0 0)), (1, .ref (ad2 0 0))] := hl
  obtain ⟨⟨e1, e2, e3, e4⟩, e5, e6, e7, e8, e9⟩ := hL
  refine lv_aload_n hx hb dX5_isLike_0 rfl (lv_at hl 0 rfl) ?_
  refine zg5_9 X hK hW m_264 dX5_isLike_1 ?_
  refine lv_aload_n hx hb dX5_isLike_4 rfl (lv_at hl 1 rfl) ?_
  refine zg5_9 X hK hW2 m_264 dX5_isLike_5 ?_
  refine lv_icmp_ne (tgt := 45) hx hb dX5_isLike_8 (by decide) (fun h => absurd h (not_not_intro e1)) (fun b1 => ?_)
  refine lv_aload_n hx hb dX5_isLike_11 rfl (lv_at hl 0 rfl) ?_
  refine zg5_10 X hK hW m_266 dX5_isLike_12 ?_
  refine lv_aload_n hx hb dX5_isLike_15 rfl (lv_at hl 1 rfl) ?_
  refine zg5_10 X hK hW2 m_266 dX5_isLike_16 ?_
  refine lv_icmp_ne (tgt := 45) hx hb dX5_isLike_19 (by decide) (fun h => absurd h (not_not_intro e2)) (fun b2 => ?_)
  refine lv_aload_n hx hb dX5_isLike_22 rfl (lv_at hl 0 rfl) ?_
  refine zg5_11 X hK hW m_267 dX5_isLike_23 ?_
  refine lv_aload_n hx hb dX5_isLike_26 rfl (lv_at hl 1 rfl) ?_
  refine zg5_11 X hK hW2 m_267 dX5_isLike_27 ?_
  refine W.lcmp hx hb dX5_isLike_30 ?_
  refine lv_if_ne (tgt := 45) hx hb dX5_isLike_31 (by decide) (fun h => absurd h (not_not_intro ((lg_cmp_eq _ _).mpr e3))) (fun b3 => ?_)
  refine lv_aload_n hx hb dX5_isLike_34 rfl (lv_at hl 0 rfl) ?_
  refine zg5_12 X hK hW m_269 dX5_isLike_35 ?_
  refine lv_aload_n hx hb dX5_isLike_38 rfl (lv_at hl 1 rfl) ?_
  refine zg5_12 X hK hW2 m_269 dX5_isLike_39 ?_
  refine lv_icmp_eq (tgt := 47) hx hb dX5_isLike_42 (by decide) (fun b4 => ?_) (fun h => absurd e4 h)
  refine lv_aload_n hx hb dX5_isLike_47 rfl (lv_at hl 0 rfl) ?_
  refine lv_aload_n hx hb dX5_isLike_48 rfl (lv_at hl 1 rfl) ?_
  refine zcallRV (As := [.ref (ad2 0 0)]) (rest := []) X hml hK ⟨hW, hW2⟩ (ctX5_hasRiggersLike l D cy ad σ ad2 ρ e5 hV) zmX5_hasRiggersLike (by decide) m_589 (zrecv hK (hW 0 0 rfl (by decide)) rfl) ⟨Nat.le_of_ble_eq_true rfl, Nat.le_of_ble_eq_true rfl⟩ ⟨Nat.zero_le _, Nat.zero_le _⟩ rfl hl.1 rfl (Nat.le_of_ble_eq_true rfl) dX5_isLike_49 ?_
  refine zb_eq (tgt := 97) hx hb dX5_isLike_52 (by decide) (fun h => absurd h (by decide)) (fun _ => ?_)
  refine lv_aload_n hx hb dX5_isLike_55 rfl (lv_at hl 0 rfl) ?_
  refine lv_aload_n hx hb dX5_isLike_56 rfl (lv_at hl 1 rfl) ?_
  refine zcallRV (As := [.ref (ad2 0 0)]) (rest := []) X hml hK ⟨hW, hW2⟩ (ctX5_hasCanopiesLike l D cy ad σ ad2 ρ e6 hV hV2) zmX5_hasCanopiesLike (by decide) m_597 (zrecv hK (hW 0 0 rfl (by decide)) rfl) ⟨Nat.le_of_ble_eq_true rfl, Nat.le_of_ble_eq_true rfl⟩ ⟨Nat.zero_le _, Nat.zero_le _⟩ rfl hl.1 rfl (Nat.le_of_ble_eq_true rfl) dX5_isLike_57 ?_
  refine zb_eq (tgt := 97) hx hb dX5_isLike_60 (by decide) (fun h => absurd h (by decide)) (fun _ => ?_)
  refine lv_aload_n hx hb dX5_isLike_63 rfl (lv_at hl 0 rfl) ?_
  refine lv_aload_n hx hb dX5_isLike_64 rfl (lv_at hl 1 rfl) ?_
  refine zcallRV (As := [.ref (ad2 0 0)]) (rest := []) X hml hK ⟨hW, hW2⟩ (ctX5_hasLoadsLike l D cy ad σ ad2 ρ e7 hV) zmX5_hasLoadsLike (by decide) m_617 (zrecv hK (hW 0 0 rfl (by decide)) rfl) ⟨Nat.le_of_ble_eq_true rfl, Nat.le_of_ble_eq_true rfl⟩ ⟨Nat.zero_le _, Nat.zero_le _⟩ rfl hl.1 rfl (Nat.le_of_ble_eq_true rfl) dX5_isLike_65 ?_
  refine zb_eq (tgt := 97) hx hb dX5_isLike_68 (by decide) (fun h => absurd h (by decide)) (fun _ => ?_)
  refine lv_aload_n hx hb dX5_isLike_71 rfl (lv_at hl 0 rfl) ?_
  refine lv_aload_n hx hb dX5_isLike_72 rfl (lv_at hl 1 rfl) ?_
  refine zcallRV (As := [.ref (ad2 0 0)]) (rest := []) X hml hK ⟨hW, hW2⟩ (ctX5_hasFindingsLike l D cy ad σ ad2 ρ e8 hV) zmX5_hasFindingsLike (by decide) m_625 (zrecv hK (hW 0 0 rfl (by decide)) rfl) ⟨Nat.le_of_ble_eq_true rfl, Nat.le_of_ble_eq_true rfl⟩ ⟨Nat.zero_le _, Nat.zero_le _⟩ rfl hl.1 rfl (Nat.le_of_ble_eq_true rfl) dX5_isLike_73 ?_
  refine zb_eq (tgt := 97) hx hb dX5_isLike_76 (by decide) (fun h => absurd h (by decide)) (fun _ => ?_)
  refine lv_aload_n hx hb dX5_isLike_79 rfl (lv_at hl 0 rfl) ?_
  refine zg5_4 X hK hW m_253 dX5_isLike_80 ?_
  refine lv_aload_n hx hb dX5_isLike_83 rfl (lv_at hl 1 rfl) ?_
  refine zg5_4 X hK hW2 m_253 dX5_isLike_84 ?_
  refine zcallRV (As := [.ref (ad2 5 0)]) (rest := []) X hml hK ⟨hW, hW2⟩ (ctX0_isLike l D cy ad σ ad2 ρ e9 hV.2.2.2.2.1) zmX0_isLike (by decide) m_633 (zrecv hK (hW 5 0 rfl (by decide)) rfl) ⟨Nat.le_of_ble_eq_true rfl, Nat.le_of_ble_eq_true rfl⟩ ⟨Nat.zero_le _, Nat.zero_le _⟩ rfl hl.1 rfl (Nat.le_of_ble_eq_true rfl) dX5_isLike_87 ?_
  refine zb_eq (tgt := 97) hx hb dX5_isLike_90 (by decide) (fun h => absurd h (by decide)) (fun _ => ?_)
  refine lv_iconst (v := 1) hx hb dX5_isLike_93 (by decide) ?_
  refine lv_goto (tgt := 98) hx hb dX5_isLike_94 (by decide) ?_
  exact ze_z hx hb hr hlocks rfl dX5_isLike_98
