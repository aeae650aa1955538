def k_max (x y : Int32) : Int32 := if x < y then y else x
theorem z_max {p : Program} {l : Launch} {e : Env} {R : Room} {s : State} {m : MethodId} {args : Array Value} {below : List Frame} {meth : Method} {c : Code} {H : Heap} {locs : List Loc} {cells slots : Nat} {Q : State → Prop} {cc : ByteArray} {pc nL index : Nat} {ls : Array Slot} {rest : List Value} {own : String} {x y : Int32} (X : zX p m c s args own cc) (hml : c.maxLocals = nL) (hls : ls.size = nL) (hl : Cond.methodLink own index yJ9_max_7cf53 ∈ lw_all) (hR : 1 ≤ R.frames ∧ 40 ≤ R.locals) (hcs : cells ≤ R.cells ∧ slots ≤ R.slots) (hrm : (rest.map fun v => v.category).sum ≤ 8) (hd : decode cc pc = .ok (.invokestatic index, 3))
    (kk : W p l e R s m args below meth c H locs cells slots Q (F0 m (pc + 3) ls (.int (k_max x y) :: rest))) : W p l e R s m args below meth c H locs cells slots Q (F0 m pc ls (.int y :: .int x :: rest)) :=
  va_mmax X.1 X.2.1 (hml.trans hls.symm) X.2.2.1 (X.2.2.2 _ hl) (X.2.2.2 _ m_583) (X.2.2.2 _ m_19) (X.2.2.2 _ m_584) hR.1 (by omega) hcs.1 hcs.2 hd kk
def f_X7_set (σ : zS) (g : Nat) (x : Int32) (y : Int32) : zS := (zpI (zpI σ 600 g x) 601 g y)
theorem zmX7_set : zmV yX7_set RX7 cX7_set 3 none 2 := ⟨m_471, m_472, m_4, m_473, rfl, by decide, by decide, by decide +kernel⟩
set_option maxRecDepth 100000 in
set_option maxHeartbeats 4000000 in
theorem ctX7_set (l : Launch) (D : va_G) (cy : Nat → ClassId) (ad : Nat → Nat → Nat) (σ : zS) (hj : zinj ad zsL) (g : Nat) (hi_g : g < 8) (x : Int32) (y : Int32) : Met l yX7_set (zw yX7_set cX7_set 3 none) (zrm 0) (va_Pc [.ref (ad 10 g), .int x, .int y] (zB D cy (zW D cy ad zsL σ))) (zqM none (zW D cy ad zsL (f_X7_set σ g x y)) (zrg ad zsL)) 0 0 (zrg ad zsL) := by
  refine zmet (by decide) rfl (Nat.le_of_ble_eq_true rfl) rfl (fun p e s m below meth c ls X hml hr hlocks hv hl => ?_)
  obtain ⟨hK, hW⟩ := hv
  obtain ⟨hx, hb, -, -⟩ := id X
  have hl : lv_has ls 3 [(0, .ref (ad 10 g)), (1, .int x), (2, .int y)] := hl
  have hS : va_S (zrg ad zsL) s.heap s.heap [] := va_S.rf
  generalize hAe : zrg ad zsL = A at hS ⊢
  have hA : ∀ q, zrg ad zsL q → A q := fun q h => by rw [← hAe]; exact h
  refine lv_aload_n hx hb dX7_set_0 rfl (lv_at hl 0 rfl) ?_
  refine lv_iload_n hx hb dX7_set_1 rfl (lv_at hl 1 rfl) ?_
  refine zp6_0 X hK hW hj hA hS hi_g m_81 dX7_set_2 (fun H locs hW hS => ?_)
  refine lv_aload_n hx hb dX7_set_5 rfl (lv_at hl 0 rfl) ?_
  refine lv_iload_n hx hb dX7_set_6 rfl (lv_at hl 2 rfl) ?_
  refine zp6_1 X hK hW hj hA hS hi_g m_83 dX7_set_7 (fun H locs hW hS => ?_)
  exact zm_v hx hb hr hlocks (by rw [f_X7_set]; exact hW) hS dX7_set_10
def f_X1_begin (σ : zS) (u : Nat) (kd : Int32) (cl : Int32) (ln : Int32) (lf : Int32) (dy : Int32) : zS := (zpI (zpI (zpI (zpI (zpI (zpI (zpI (zpL (zpI (zpI (zpI (zpI (zpI (zpI (zpI (zpI (zpI (zpI (zpI σ 100 u kd) 101 u cl) 102 u ln) 103 u lf) 104 u dy) 105 u 111) 106 u (-1)) 107 u 0) 109 u 0) 110 u (-1)) 111 u 0) 112 u 0) 113 u 0) 114 u 0) 115 u 0) 116 u 0) 117 u 0) 118 u 0) 119 u 0)
theorem zmX1_begin : zmV yX1_begin RX1 cX1_begin 6 none 5 := ⟨m_483, m_484, m_5, m_485, rfl, by decide, by decide, by decide +kernel⟩
set_option maxRecDepth 100000 in
set_option maxHeartbeats 4000000 in
theorem ctX1_begin (l : Launch) (D : va_G) (cy : Nat → ClassId) (ad : Nat → Nat → Nat) (σ : zS) (hj : zinj ad zsL) (u : Nat) (hi_u : u < 24) (kd : Int32) (cl : Int32) (ln : Int32) (lf : Int32) (dy : Int32) (hkd : narrow .char (.int kd) = .int kd ∧ fits .char (.int kd) = true) : Met l yX1_begin (zw yX1_begin cX1_begin 6 none) (zrm 0) (va_Pc [.ref (ad 11 u), .int kd, .int cl, .int ln, .int lf, .int dy] (zB D cy (zW D cy ad zsL σ))) (zqM none (zW D cy ad zsL (f_X1_begin σ u kd cl ln lf dy)) (zrg ad zsL)) 0 0 (zrg ad zsL) := by
  refine zmet (by decide) rfl (Nat.le_of_ble_eq_true rfl) rfl (fun p e s m below meth c ls X hml hr hlocks hv hl => ?_)
  obtain ⟨hK, hW⟩ := hv
  obtain ⟨hx, hb, -, -⟩ := id X
  have hl : lv_has ls 6 [(0, .ref (ad 11 u)), (1, .int kd), (2, .int cl), (3, .int ln), (4, .int lf), (5, .int dy)] := hl
  have hS : va_S (zrg ad zsL) s.heap s.heap [] := va_S.rf
  generalize hAe : zrg ad zsL = A at hS ⊢
  have hA : ∀ q, zrg ad zsL q → A q := fun q h => by rw [← hAe]; exact h
  refine lv_aload_n hx hb dX1_begin_0 rfl (lv_at hl 0 rfl) ?_
  refine lv_iload_n hx hb dX1_begin_1 rfl (lv_at hl 1 rfl) ?_
  refine zp1_0 X hK hW hj hA hS hi_u hkd.1 hkd.2 m_94 dX1_begin_2 (fun H locs hW hS => ?_)
  refine lv_aload_n hx hb dX1_begin_5 rfl (lv_at hl 0 rfl) ?_
  refine lv_iload_n hx hb dX1_begin_6 rfl (lv_at hl 2 rfl) ?_
  refine zp1_1 X hK hW hj hA hS hi_u m_97 dX1_begin_7 (fun H locs hW hS => ?_)
  refine lv_aload_n hx hb dX1_begin_10 rfl (lv_at hl 0 rfl) ?_
  refine lv_iload_n hx hb dX1_begin_11 rfl (lv_at hl 3 rfl) ?_
  refine zp1_2 X hK hW hj hA hS hi_u m_99 dX1_begin_12 (fun H locs hW hS => ?_)
  refine lv_aload_n hx hb dX1_begin_15 rfl (lv_at hl 0 rfl) ?_
  refine lv_iload hx hb dX1_begin_16 (lv_at hl 4 rfl) ?_
  refine zp1_3 X hK hW hj hA hS hi_u m_101 dX1_begin_18 (fun H locs hW hS => ?_)
  refine lv_aload_n hx hb dX1_begin_21 rfl (lv_at hl 0 rfl) ?_
  refine lv_iload hx hb dX1_begin_22 (lv_at hl 5 rfl) ?_
  refine zp1_4 X hK hW hj hA hS hi_u m_103 dX1_begin_24 (fun H locs hW hS => ?_)
  refine lv_aload_n hx hb dX1_begin_27 rfl (lv_at hl 0 rfl) ?_
  refine lv_bipush (v := 111) hx hb dX1_begin_28 (by decide) ?_
  refine zp1_5 X hK hW hj hA hS hi_u rfl rfl m_105 dX1_begin_30 (fun H locs hW hS => ?_)
  refine lv_aload_n hx hb dX1_begin_33 rfl (lv_at hl 0 rfl) ?_
  refine lv_iconst (v := (-1)) hx hb dX1_begin_34 (by decide) ?_
  refine zp1_6 X hK hW hj hA hS hi_u m_109 dX1_begin_35 (fun H locs hW hS => ?_)
  refine lv_aload_n hx hb dX1_begin_38 rfl (lv_at hl 0 rfl) ?_
  refine lv_iconst (v := 0) hx hb dX1_begin_39 (by decide) ?_
  refine zp1_7 X hK hW hj hA hS hi_u m_111 dX1_begin_40 (fun H locs hW hS => ?_)
  refine lv_aload_n hx hb dX1_begin_43 rfl (lv_at hl 0 rfl) ?_
  refine lv_iconst (v := 0) hx hb dX1_begin_44 (by decide) ?_
  refine zp1_9 X hK hW hj hA hS hi_u m_117 dX1_begin_45 (fun H locs hW hS => ?_)
  refine lv_aload_n hx hb dX1_begin_48 rfl (lv_at hl 0 rfl) ?_
  refine lv_iconst (v := (-1)) hx hb dX1_begin_49 (by decide) ?_
  refine zp1_10 X hK hW hj hA hS hi_u m_120 dX1_begin_50 (fun H locs hW hS => ?_)
  refine lv_aload_n hx hb dX1_begin_53 rfl (lv_at hl 0 rfl) ?_
  refine lv_iconst (v := 0) hx hb dX1_begin_54 (by decide) ?_
  refine zp1_11 X hK hW hj hA hS hi_u m_122 dX1_begin_55 (fun H locs hW hS => ?_)
  refine lv_aload_n hx hb dX1_begin_58 rfl (lv_at hl 0 rfl) ?_
  refine lv_lconst (v := 0) hx hb dX1_begin_59 rfl ?_
  refine zp1_12 X hK hW hj hA hS hi_u m_124 dX1_begin_60 (fun H locs hW hS => ?_)
  refine lv_aload_n hx hb dX1_begin_63 rfl (lv_at hl 0 rfl) ?_
  refine lv_iconst (v := 0) hx hb dX1_begin_64 (by decide) ?_
  refine zp1_13 X hK hW hj hA hS hi_u m_126 dX1_begin_65 (fun H locs hW hS => ?_)
  refine lv_aload_n hx hb dX1_begin_68 rfl (lv_at hl 0 rfl) ?_
  refine lv_iconst (v := 0) hx hb dX1_begin_69 (by decide) ?_
  refine zp1_14 X hK hW hj hA hS hi_u m_128 dX1_begin_70 (fun H locs hW hS => ?_)
  refine lv_aload_n hx hb dX1_begin_73 rfl (lv_at hl 0 rfl) ?_
  refine lv_iconst (v := 0) hx hb dX1_begin_74 (by decide) ?_
  refine zp1_15 X hK hW hj hA hS hi_u m_130 dX1_begin_75 (fun H locs hW hS => ?_)
  refine lv_aload_n hx hb dX1_begin_78 rfl (lv_at hl 0 rfl) ?_
  refine lv_iconst (v := 0) hx hb dX1_begin_79 (by decide) ?_
  refine zp1_16 X hK hW hj hA hS hi_u m_132 dX1_begin_80 (fun H locs hW hS => ?_)
  refine lv_aload_n hx hb dX1_begin_83 rfl (lv_at hl 0 rfl) ?_
  refine lv_iconst (v := 0) hx hb dX1_begin_84 (by decide) ?_
  refine zp1_17 X hK hW hj hA hS hi_u m_133 dX1_begin_85 (fun H locs hW hS => ?_)
  refine lv_aload_n hx hb dX1_begin_88 rfl (lv_at hl 0 rfl) ?_
  refine lv_iconst (v := 0) hx hb dX1_begin_89 (by decide) ?_
  refine zp1_18 X hK hW hj hA hS hi_u m_135 dX1_begin_90 (fun H locs hW hS => ?_)
  refine lv_aload_n hx hb dX1_begin_93 rfl (lv_at hl 0 rfl) ?_
  refine lv_iconst (v := 0) hx hb dX1_begin_94 (by decide) ?_
  refine zp1_19 X hK hW hj hA hS hi_u m_137 dX1_begin_95 (fun H locs hW hS => ?_)
  exact zm_v hx hb hr hlocks (by rw [f_X1_begin]; exact hW) hS dX1_begin_98
def f_X1_noteDrop (σ : zS) (u : Nat) (gd : Bool) (tk : Int32) : zS := if gd = false then (zpI (zpI (zpI σ 115 u 0) 117 u 0) 116 u 0) else (zpI (zpI (zpI σ 115 u ((zI σ 115 u) + 1)) 117 u (zI (zpI σ 115 u ((zI σ 115 u) + 1)) 116 u)) 116 u tk)
theorem zmX1_noteDrop : zmV yX1_noteDrop RX1 cX1_noteDrop 3 none 2 := ⟨m_567, m_568, m_5, m_569, rfl, by decide, by decide, by decide +kernel⟩
set_option maxRecDepth 100000 in
set_option maxHeartbeats 4000000 in
theorem ctX1_noteDrop (l : Launch) (D : va_G) (cy : Nat → ClassId) (ad : Nat → Nat → Nat) (σ : zS) (hj : zinj ad zsL) (u : Nat) (hi_u : u < 24) (gd : Bool) (tk : Int32) : Met l yX1_noteDrop (zw yX1_noteDrop cX1_noteDrop 3 none) (zrm 0) (va_Pc [.ref (ad 11 u), .int (bI gd), .int tk] (zB D cy (zW D cy ad zsL σ))) (zqM none (zW D cy ad zsL (f_X1_noteDrop σ u gd tk)) (zrg ad zsL)) 0 0 (zrg ad zsL) := by
  refine zmet (by decide) rfl (Nat.le_of_ble_eq_true rfl) rfl (fun p e s m below meth c ls X hml hr hlocks hv hl => ?_)
  obtain ⟨hK, hW⟩ := hv
  obtain ⟨hx, hb, -, -⟩ := id X
  have hl : lv_has ls 3 [(0, .ref (ad 11 u)), (1, .int (bI gd)), (2, .int tk)] := hl
  have hS : va_S (zrg ad zsL) s.heap s.heap [] := va_S.rf
  generalize hAe : zrg ad zsL = A at hS ⊢
  have hA : ∀ q, zrg ad zsL q → A q := fun q h => by rw [← hAe]; exact h
  refine lv_iload_n hx hb dX1_noteDrop_0 rfl (lv_at hl 1 rfl) ?_
  refine zb_eq (tgt := 30) hx hb dX1_noteDrop_1 (by decide) (fun b1 => ?_) (fun b1 => ?_)
  · refine lv_aload_n hx hb dX1_noteDrop_30 rfl (lv_at hl 0 rfl) ?_
    refine lv_iconst (v := 0) hx hb dX1_noteDrop_31 (by decide) ?_
    refine zp1_15 X hK hW hj hA hS hi_u m_130 dX1_noteDrop_32 (fun H locs hW hS => ?_)
    refine lv_aload_n hx hb dX1_noteDrop_35 rfl (lv_at hl 0 rfl) ?_
    refine lv_iconst (v := 0) hx hb dX1_noteDrop_36 (by decide) ?_
    refine zp1_17 X hK hW hj hA hS hi_u m_133 dX1_noteDrop_37 (fun H locs hW hS => ?_)
    refine lv_aload_n hx hb dX1_noteDrop_40 rfl (lv_at hl 0 rfl) ?_
    refine lv_iconst (v := 0) hx hb dX1_noteDrop_41 (by decide) ?_
    refine zp1_16 X hK hW hj hA hS hi_u m_132 dX1_noteDrop_42 (fun H locs hW hS => ?_)
    exact zm_v hx hb hr hlocks (by rw [f_X1_noteDrop, if_pos b1]; exact hW) hS dX1_noteDrop_45
  · refine lv_aload_n hx hb dX1_noteDrop_4 rfl (lv_at hl 0 rfl) ?_
    refine lv_dup hx hb dX1_noteDrop_5 rfl ?_
    refine zg1_15 X hK hW hi_u m_130 dX1_noteDrop_6 ?_
    refine lv_iconst (v := 1) hx hb dX1_noteDrop_9 (by decide) ?_
    refine lv_iadd hx hb dX1_noteDrop_10 ?_
    refine zp1_15 X hK hW hj hA hS hi_u m_130 dX1_noteDrop_11 (fun H locs hW hS => ?_)
    refine lv_aload_n hx hb dX1_noteDrop_14 rfl (lv_at hl 0 rfl) ?_
    refine lv_aload_n hx hb dX1_noteDrop_15 rfl (lv_at hl 0 rfl) ?_
    refine zg1_16 X hK hW hi_u m_132 dX1_noteDrop_16 ?_
    refine zp1_17 X hK hW hj hA hS hi_u m_133 dX1_noteDrop_19 (fun H locs hW hS => ?_)
    refine lv_aload_n hx hb dX1_noteDrop_22 rfl (lv_at hl 0 rfl) ?_
    refine lv_iload_n hx hb dX1_noteDrop_23 rfl (lv_at hl 2 rfl) ?_
    refine zp1_16 X hK hW hj hA hS hi_u m_132 dX1_noteDrop_24 (fun H locs hW hS => ?_)
    refine lv_goto (tgt := 45) hx hb dX1_noteDrop_27 (by decide) ?_
    exact zm_v hx hb hr hlocks (by rw [f_X1_noteDrop, if_neg (by simp [b1])]; exact hW) hS dX1_noteDrop_45
def f_X1_land (σ : zS) (u : Nat) : zS := (zpI (zpI σ 105 u 111) 113 u ((zI (zpI σ 105 u 111) 113 u) + 1))
theorem zmX1_land : zmV yX1_land RX1 cX1_land 1 none 0 := ⟨m_535, m_536, m_5, m_537, rfl, by decide, by decide, by decide +kernel⟩
set_option maxRecDepth 100000 in
set_option maxHeartbeats 4000000 in
theorem ctX1_land (l : Launch) (D : va_G) (cy : Nat → ClassId) (ad : Nat → Nat → Nat) (σ : zS) (hj : zinj ad zsL) (u : Nat) (hi_u : u < 24) : Met l yX1_land (zw yX1_land cX1_land 1 none) (zrm 0) (va_Pc [.ref (ad 11 u)] (zB D cy (zW D cy ad zsL σ))) (zqM none (zW D cy ad zsL (f_X1_land σ u)) (zrg ad zsL)) 0 0 (zrg ad zsL) := by
  refine zmet (by decide) rfl (Nat.le_of_ble_eq_true rfl) rfl (fun p e s m below meth c ls X hml hr hlocks hv hl => ?_)
  obtain ⟨hK, hW⟩ := hv
  obtain ⟨hx, hb, -, -⟩ := id X
  have hl : lv_has ls 1 [(0, .ref (ad 11 u))] := hl
  have hS : va_S (zrg ad zsL) s.heap s.heap [] := va_S.rf
  generalize hAe : zrg ad zsL = A at hS ⊢
  have hA : ∀ q, zrg ad zsL q → A q := fun q h => by rw [← hAe]; exact h
  refine lv_aload_n hx hb dX1_land_0 rfl (lv_at hl 0 rfl) ?_
  refine lv_bipush (v := 111) hx hb dX1_land_1 (by decide) ?_
  refine zp1_5 X hK hW hj hA hS hi_u rfl rfl m_105 dX1_land_3 (fun H locs hW hS => ?_)
  refine lv_aload_n hx hb dX1_land_6 rfl (lv_at hl 0 rfl) ?_
  refine lv_dup hx hb dX1_land_7 rfl ?_
  refine zg1_13 X hK hW hi_u m_126 dX1_land_8 ?_
  refine lv_iconst (v := 1) hx hb dX1_land_11 (by decide) ?_
  refine lv_iadd hx hb dX1_land_12 ?_
  refine zp1_13 X hK hW hj hA hS hi_u m_126 dX1_land_13 (fun H locs hW hS => ?_)
  exact zm_v hx hb hr hlocks (by rw [f_X1_land]; exact hW) hS dX1_land_16
def f_X4_begin (σ : zS) (o : Nat) : zS := (zpI (zpI σ 400 o 0) 401 o 0)
theorem zmX4_begin : zmV yX4_begin RX4 cX4_begin 1 none 0 := ⟨m_519, m_520, m_6, m_521, rfl, by decide, by decide, by decide +kernel⟩
set_option maxRecDepth 100000 in
set_option maxHeartbeats 4000000 in
theorem ctX4_begin (l : Launch) (D : va_G) (cy : Nat → ClassId) (ad : Nat → Nat → Nat) (σ : zS) (hj : zinj ad zsL) (o : Nat) (hi_o : o < 30) : Met l yX4_begin (zw yX4_begin cX4_begin 1 none) (zrm 0) (va_Pc [.ref (ad 13 o)] (zB D cy (zW D cy ad zsL σ))) (zqM none (zW D cy ad zsL (f_X4_begin σ o)) (zrg ad zsL)) 0 0 (zrg ad zsL) := by
  refine zmet (by decide) rfl (Nat.le_of_ble_eq_true rfl) rfl (fun p e s m below meth c ls X hml hr hlocks hv hl => ?_)
  obtain ⟨hK, hW⟩ := hv
  obtain ⟨hx, hb, -, -⟩ := id X
  have hl : lv_has ls 1 [(0, .ref (ad 13 o))] := hl
  have hS : va_S (zrg ad zsL) s.heap s.heap [] := va_S.rf
  generalize hAe : zrg ad zsL = A at hS ⊢
  have hA : ∀ q, zrg ad zsL q → A q := fun q h => by rw [← hAe]; exact h
  refine lv_aload_n hx hb dX4_begin_0 rfl (lv_at hl 0 rfl) ?_
  refine lv_iconst (v := 0) hx hb dX4_begin_1 (by decide) ?_
  refine zp4_0 X hK hW hj hA hS hi_o m_185 dX4_begin_2 (fun H locs hW hS => ?_)
  refine lv_aload_n hx hb dX4_begin_5 rfl (lv_at hl 0 rfl) ?_
  refine lv_iconst (v := 0) hx hb dX4_begin_6 (by decide) ?_
  refine zp4_1 X hK hW hj hA hS hi_o rfl rfl m_188 dX4_begin_7 (fun H locs hW hS => ?_)
  exact zm_v hx hb hr hlocks (by rw [f_X4_begin]; exact hW) hS dX4_begin_10
def f_X3_begin (σ : zS) (f : Nat) (u : Int32) (pk : Int32) (tk : Int32) : zS := (zpI (zpI (zpI (zpI (zpI (zpI (zpI σ 300 f u) 301 f pk) 302 f 0) 303 f 45) 304 f 0) 305 f tk) 306 f 0)
theorem zmX3_begin : zmV yX3_begin RX3 cX3_begin 4 none 3 := ⟨m_543, m_544, m_7, m_545, rfl, by decide, by decide, by decide +kernel⟩
set_option maxRecDepth 100000 in
set_option maxHeartbeats 4000000 in
theorem ctX3_begin (l : Launch) (D : va_G) (cy : Nat → ClassId) (ad : Nat → Nat → Nat) (σ : zS) (hj : zinj ad zsL) (f : Nat) (hi_f : f < 12) (u : Int32) (pk : Int32) (tk : Int32) : Met l yX3_begin (zw yX3_begin cX3_begin 4 none) (zrm 0) (va_Pc [.ref (ad 16 f), .int u, .int pk, .int tk] (zB D cy (zW D cy ad zsL σ))) (zqM none (zW D cy ad zsL (f_X3_begin σ f u pk tk)) (zrg ad zsL)) 0 0 (zrg ad zsL) := by
  refine zmet (by decide) rfl (Nat.le_of_ble_eq_true rfl) rfl (fun p e s m below meth c ls X hml hr hlocks hv hl => ?_)
  obtain ⟨hK, hW⟩ := hv
  obtain ⟨hx, hb, -, -⟩ := id X
  have hl : lv_has ls 4 [(0, .ref (ad 16 f)), (1, .int u), (2, .int pk), (3, .int tk)] := hl
  have hS : va_S (zrg ad zsL) s.heap s.heap [] := va_S.rf
  generalize hAe : zrg ad zsL = A at hS ⊢
  have hA : ∀ q, zrg ad zsL q → A q := fun q h => by rw [← hAe]; exact h
  refine lv_aload_n hx hb dX3_begin_0 rfl (lv_at hl 0 rfl) ?_
  refine lv_iload_n hx hb dX3_begin_1 rfl (lv_at hl 1 rfl) ?_
  refine zp3_0 X hK hW hj hA hS hi_f m_211 dX3_begin_2 (fun H locs hW hS => ?_)
  refine lv_aload_n hx hb dX3_begin_5 rfl (lv_at hl 0 rfl) ?_
  refine lv_iload_n hx hb dX3_begin_6 rfl (lv_at hl 2 rfl) ?_
  refine zp3_1 X hK hW hj hA hS hi_f m_213 dX3_begin_7 (fun H locs hW hS => ?_)
  refine lv_aload_n hx hb dX3_begin_10 rfl (lv_at hl 0 rfl) ?_
  refine lv_iconst (v := 0) hx hb dX3_begin_11 (by decide) ?_
  refine zp3_2 X hK hW hj hA hS hi_f m_216 dX3_begin_12 (fun H locs hW hS => ?_)
  refine lv_aload_n hx hb dX3_begin_15 rfl (lv_at hl 0 rfl) ?_
  refine lv_bipush (v := 45) hx hb dX3_begin_16 (by decide) ?_
  refine zp3_3 X hK hW hj hA hS hi_f rfl rfl m_219 dX3_begin_18 (fun H locs hW hS => ?_)
  refine lv_aload_n hx hb dX3_begin_21 rfl (lv_at hl 0 rfl) ?_
  refine lv_iconst (v := 0) hx hb dX3_begin_22 (by decide) ?_
  refine zp3_4 X hK hW hj hA hS hi_f rfl rfl m_222 dX3_begin_23 (fun H locs hW hS => ?_)
  refine lv_aload_n hx hb dX3_begin_26 rfl (lv_at hl 0 rfl) ?_
  refine lv_iload_n hx hb dX3_begin_27 rfl (lv_at hl 3 rfl) ?_
  refine zp3_5 X hK hW hj hA hS hi_f m_225 dX3_begin_28 (fun H locs hW hS => ?_)
  refine lv_aload_n hx hb dX3_begin_31 rfl (lv_at hl 0 rfl) ?_
  refine lv_iconst (v := 0) hx hb dX3_begin_32 (by decide) ?_
  refine zp3_6 X hK hW hj hA hS hi_f m_227 dX3_begin_33 (fun H locs hW hS => ?_)
  exact zm_v hx hb hr hlocks (by rw [f_X3_begin]; exact hW) hS dX3_begin_36
/-- the riggers of a packing, k of them written -/
def k_wr (σ : zS) (u q : Nat) : Nat → zS
  | 0 => σ
  | k + 1 => zpA (k_wr σ u q k) 9 0 (q * 5 + k) (zA (k_wr σ u q k) 12 u k)
theorem k_wr_I (σ : zS) (u q f i : Nat) : ∀ k, zI (k_wr σ u q k) f i = zI σ f i
  | 0 => rfl
  | k + 1 => by rw [k_wr, zI_pA, k_wr_I σ u q f i k]
def f_X0_write (σ : zS) (u : Nat) (ow hk dy : Int32) : zS := if 86 ≤ zI σ 0 0 then σ else zpI (k_wr (zpA (zpA (zpA σ 6 0 (zI σ 0 0).toNatClampNeg ow) 7 0 (zI σ 0 0).toNatClampNeg hk) 8 0 (zI σ 0 0).toNatClampNeg dy) u (zI σ 0 0).toNatClampNeg 5) 0 0 (zI σ 0 0 + 1)
def r_X0_write (σ : zS) (u : Nat) (ow hk dy : Int32) : Int32 := if 86 ≤ zI σ 0 0 then -1 else zI σ 0 0 + 1 - 1
theorem zmX0_write : zmV yX0_write RX0 cX0_write 6 (some .int) 4 := ⟨m_507, m_508, m_3, m_509, rfl, by decide, by decide, by decide +kernel⟩
set_option maxRecDepth 100000 in
set_option maxHeartbeats 4000000 in
theorem ctX0_write (l : Launch) (D : va_G) (cy : Nat → ClassId) (ad : Nat → Nat → Nat) (σ : zS) (hj : zinj ad zsL) (ow : Int32) (hkk : Int32) (dy : Int32) (u : Nat) (hi_u : u < 24) (hc : zbd σ 0 86) : Met l yX0_write (zw yX0_write cX0_write 6 (some .int)) (zrm 0) (va_Pc [.ref (ad 5 0), .int ow, .int hkk, .int dy, .ref (ad 12 u)] (zB D cy (zW D cy ad zsL σ))) (zqM (some (.int (r_X0_write σ u ow hkk dy))) (zW D cy ad zsL (f_X0_write σ u ow hkk dy)) (zrg ad zsL)) 0 0 (zrg ad zsL) := by
  refine zmet (by decide) rfl (Nat.le_of_ble_eq_true rfl) rfl (fun p e s m below meth c ls X hml hr hlocks hv hl => ?_)
  obtain ⟨hK, hW⟩ := hv
  obtain ⟨hx, hb, -, -⟩ := id X
  have hl : lv_has ls 6 [(0, .ref (ad 5 0)), (1, .int ow), (2, .int hkk), (3, .int dy), (4, .ref (ad 12 u))] := hl
  have hS : va_S (zrg ad zsL) s.heap s.heap [] := va_S.rf
  generalize hAe : zrg ad zsL = A at hS ⊢
  have hA : ∀ q, zrg ad zsL q → A q := fun q h => by rw [← hAe]; exact h
  refine lv_aload_n hx hb dX0_write_0 rfl (lv_at hl 0 rfl) ?_
  refine zg0_0 X hK hW m_56 dX0_write_1 ?_
  refine lv_bipush (v := 86) hx hb dX0_write_4 (by decide) ?_
  refine lv_icmp_ge (tgt := 16) hx hb dX0_write_6 (by decide) (fun b1 => ?_) (fun b1 => ?_)
  · refine lv_iconst (v := (-1)) hx hb dX0_write_16 (by decide) ?_
    exact zm_i hx hb hr hlocks (by rw [r_X0_write, if_pos b1]) (by rw [f_X0_write, if_pos b1]; exact hW) hS dX0_write_17
  · refine lv_aload hx hb dX0_write_9 (lv_at hl 4 rfl) ?_
    refine z_alen (v := 5) X hK hW rfl hi_u rfl rfl dX0_write_11 ?_
    refine lv_iconst (v := 5) hx hb dX0_write_12 (by decide) ?_
    refine lv_icmp_ge (tgt := 18) hx hb dX0_write_13 (by decide) (fun _ => ?_) (fun h => absurd h (by decide))
    obtain ⟨q, hqq, hqe⟩ : ∃ q, q < 86 ∧ zI σ 0 0 = nI q := by
      have h9 := b1
      rw [hc.1] at h9
      exact ⟨zn σ 0, zlt_c (N := 86) (by decide) hc.2 h9, hc.1⟩
    have hi0 : vp_in (zI σ 0 0) 86 := by rw [hqe]; exact vp_in_nI hqq (by decide)
    have hcl : (zI σ 0 0).toNatClampNeg = q := by rw [hqe]; exact nI_clamp (by omega)
    refine lv_aload_n hx hb dX0_write_18 rfl (lv_at hl 0 rfl) ?_
    refine zg0_1 X hK hW m_58 dX0_write_19 ?_
    refine lv_aload_n hx hb dX0_write_22 rfl (lv_at hl 0 rfl) ?_
    refine zg0_0 X hK hW m_56 dX0_write_23 ?_
    refine lv_iload_n hx hb dX0_write_26 rfl (lv_at hl 1 rfl) ?_
    refine zs6 X hK hW hj hA hS hi0 dX0_write_27 (fun H locs hW hS => ?_)
    refine lv_aload_n hx hb dX0_write_28 rfl (lv_at hl 0 rfl) ?_
    refine zg0_2 X hK hW m_59 dX0_write_29 ?_
    refine lv_aload_n hx hb dX0_write_32 rfl (lv_at hl 0 rfl) ?_
    refine zg0_0 X hK hW m_56 dX0_write_33 ?_
    refine lv_iload_n hx hb dX0_write_36 rfl (lv_at hl 2 rfl) ?_
    refine zs7 X hK hW hj hA hS hi0 dX0_write_37 (fun H locs hW hS => ?_)
    refine lv_aload_n hx hb dX0_write_38 rfl (lv_at hl 0 rfl) ?_
    refine zg0_3 X hK hW m_61 dX0_write_39 ?_
    refine lv_aload_n hx hb dX0_write_42 rfl (lv_at hl 0 rfl) ?_
    refine zg0_0 X hK hW m_56 dX0_write_43 ?_
    refine lv_iload_n hx hb dX0_write_46 rfl (lv_at hl 3 rfl) ?_
    refine zs8 X hK hW hj hA hS hi0 dX0_write_47 (fun H locs hW hS => ?_)
    refine lv_iconst (v := 0) hx hb dX0_write_48 (by decide) ?_
    refine lv_istore (lv' := [(5, .int 0), (0, .ref (ad 5 0)), (1, .int ow), (2, .int hkk), (3, .int dy), (4, .ref (ad 12 u))]) hx hb dX0_write_49 hl (by decide) rfl (fun ls hl => ?_)
    have loop51 : ∀ (n : Nat) (k : Nat) (ls : Array Slot), lv_has ls 6 [(0, .ref (ad 5 0)), (1, .int ow), (2, .int hkk), (3, .int dy), (4, .ref (ad 12 u)), (5, .int (nI k))] → 5 - k < n → ∀ (τ : zS) (H : Heap) (locs : List Loc), zW D cy ad zsL τ H → va_S A s.heap H locs → (k ≤ 5) → (τ = k_wr (zpA (zpA (zpA σ 6 0 q ow) 7 0 q hkk) 8 0 q dy) u q k) → W p l e (zrm 0) s m ([.ref (ad 5 0), .int ow, .int hkk, .int dy, .ref (ad 12 u)] : List Value).toArray below meth c H locs 0 0 (MQ below (zqM (some (.int (r_X0_write σ u ow hkk dy))) (zW D cy ad zsL (f_X0_write σ u ow hkk dy)) A) ([.ref (ad 5 0), .int ow, .int hkk, .int dy, .ref (ad 12 u)] : List Value).toArray s 0 0 A) (F0 m 51 ls []) := by
      intro n
      induction n with
      | zero => intro k ls hl hm τ H locs hW hS hk ht; exact absurd hm (Nat.not_lt_zero _)
      | succ n ih51 =>
        intro k ls hl hm τ H locs hW hS hk ht
        refine lv_iload hx hb dX0_write_51 (lv_at hl 5 rfl) ?_
        refine lv_iconst (v := 5) hx hb dX0_write_53 (by decide) ?_
        refine lv_icmp_ge (tgt := 82) hx hb dX0_write_54 (by decide) (fun b3 => ?_) (fun b3 => ?_)
        · refine lv_aload_n hx hb dX0_write_82 rfl (lv_at hl 0 rfl) ?_
          refine lv_dup hx hb dX0_write_83 rfl ?_
          have h0 : zI τ 0 0 = zI σ 0 0 := by rw [ht, k_wr_I]; rfl
          refine zg0_0 X hK hW m_56 dX0_write_84 ?_
          refine lv_iconst (v := 1) hx hb dX0_write_87 (by decide) ?_
          refine lv_iadd hx hb dX0_write_88 ?_
          refine zp0_0 X hK hW hj hA hS m_56 dX0_write_89 (fun H locs hW hS => ?_)
          refine lv_aload_n hx hb dX0_write_92 rfl (lv_at hl 0 rfl) ?_
          refine zg0_0 X hK hW m_56 dX0_write_93 ?_
          refine lv_iconst (v := 1) hx hb dX0_write_96 (by decide) ?_
          refine lv_isub hx hb dX0_write_97 ?_
          exact zm_i hx hb hr hlocks (by rw [r_X0_write, if_neg (by rw [hqe]; exact fun z => absurd (znle (a := 86) (by decide) (by omega) z) (by omega)), zI_pI, if_pos ⟨rfl, rfl⟩, h0]) (by have hk5 := zge_c (N := 5) (by decide) hk b3; subst hk5; subst ht; rw [h0] at hW; rw [f_X0_write, if_neg (by rw [hqe]; exact fun z => absurd (znle (a := 86) (by decide) (by omega) z) (by omega)), hcl]; exact hW) hS dX0_write_98
        · have hlt : k < 5 := zlt_c (by decide) hk b3
          refine lv_aload_n hx hb dX0_write_57 rfl (lv_at hl 0 rfl) ?_
          refine zg0_4 X hK hW m_63 dX0_write_58 ?_
          refine lv_aload_n hx hb dX0_write_61 rfl (lv_at hl 0 rfl) ?_
          refine zg0_0 X hK hW m_56 dX0_write_62 ?_
          refine lv_iconst (v := 5) hx hb dX0_write_65 (by decide) ?_
          refine lv_imul hx hb dX0_write_66 ?_
          rw [show zI τ 0 0 = nI q by rw [ht, k_wr_I]; exact hqe]
          refine lv_iload hx hb dX0_write_67 (lv_at hl 5 rfl) ?_
          refine lv_iadd hx hb dX0_write_69 ?_
          rw [zmul5]
          refine lv_aload hx hb dX0_write_70 (lv_at hl 4 rfl) ?_
          refine lv_iload hx hb dX0_write_72 (lv_at hl 5 rfl) ?_
          refine zan12 X hK hW hi_u (by omega) dX0_write_74 ?_
          refine zsn9 X hK hW hj hA hS (by omega) dX0_write_75 (fun H locs hW hS => ?_)
          refine lv_iinc (v := nI (k + 1)) (lv' := [(5, .int (nI (k + 1))), (0, .ref (ad 5 0)), (1, .int ow), (2, .int hkk), (3, .int dy), (4, .ref (ad 12 u))]) hx hb dX0_write_76 hl (k := 5) rfl (nI_1 k) (by decide) rfl (fun ls hl => ?_)
          refine lv_goto (tgt := 51) hx hb dX0_write_79 (by decide) ?_
          exact ih51 (k + 1) _ (lv_sub hl [1, 2, 3, 4, 5, 0] rfl) (by omega) (zpA τ 9 0 (q * 5 + k) (zA τ 12 u k)) _ _ hW hS hlt (by rw [ht, k_wr])
    exact loop51 _ 0 _ (lv_sub hl [1, 2, 3, 4, 5, 0] rfl) (Nat.lt_succ_self _) (zpA (zpA (zpA σ 6 0 ((zI σ 0 0).toNatClampNeg) ow) 7 0 ((zI (zpA σ 6 0 ((zI σ 0 0).toNatClampNeg) ow) 0 0).toNatClampNeg) hkk) 8 0 ((zI (zpA (zpA σ 6 0 ((zI σ 0 0).toNatClampNeg) ow) 7 0 ((zI (zpA σ 6 0 ((zI σ 0 0).toNatClampNeg) ow) 0 0).toNatClampNeg) hkk) 0 0).toNatClampNeg) dy) _ _ hW hS (Nat.zero_le _) (by simp only [zI_pA, hcl]; rfl)
def f_X5_clear (σ : zS) : zS := (zpI (zpL (zpI (zpI (zpI (zpI (zpI (zpI (zpI σ 505 0 0) 506 0 0) 507 0 0) 508 0 0) 0 0 0) 509 0 0) 510 0 180) 511 0 0) 512 0 0)
theorem zmX5_clear : zmV yX5_clear RX5 cX5_clear 1 none 0 := ⟨m_330, m_331, m_2, m_332, rfl, by decide, by decide, by decide +kernel⟩
set_option maxRecDepth 100000 in
set_option maxHeartbeats 4000000 in
theorem ctX5_clear (l : Launch) (D : va_G) (cy : Nat → ClassId) (ad : Nat → Nat → Nat) (σ : zS) (hj : zinj ad zsL) : Met l yX5_clear (zw yX5_clear cX5_clear 1 none) (zrm 0) (va_Pc [.ref (ad 0 0)] (zB D cy (zW D cy ad zsL σ))) (zqM none (zW D cy ad zsL (f_X5_clear σ)) (zrg ad zsL)) 0 0 (zrg ad zsL) := by
  refine zmet (by decide) rfl (Nat.le_of_ble_eq_true rfl) rfl (fun p e s m below meth c ls X hml hr hlocks hv hl => ?_)
  obtain ⟨hK, hW⟩ := hv
  obtain ⟨hx, hb, -, -⟩ := id X
  have hl : lv_has ls 1 [(0, .ref (ad 0 0))] := hl
  have hS : va_S (zrg ad zsL) s.heap s.heap [] := va_S.rf
  generalize hAe : zrg ad zsL = A at hS ⊢
  have hA : ∀ q, zrg ad zsL q → A q := fun q h => by rw [← hAe]; exact h
  refine lv_aload_n hx hb dX5_clear_0 rfl (lv_at hl 0 rfl) ?_
  refine lv_iconst (v := 0) hx hb dX5_clear_1 (by decide) ?_
  refine zp5_5 X hK hW hj hA hS m_255 dX5_clear_2 (fun H locs hW hS => ?_)
  refine lv_aload_n hx hb dX5_clear_5 rfl (lv_at hl 0 rfl) ?_
  refine lv_iconst (v := 0) hx hb dX5_clear_6 (by decide) ?_
  refine zp5_6 X hK hW hj hA hS m_257 dX5_clear_7 (fun H locs hW hS => ?_)
  refine lv_aload_n hx hb dX5_clear_10 rfl (lv_at hl 0 rfl) ?_
  refine lv_iconst (v := 0) hx hb dX5_clear_11 (by decide) ?_
  refine zp5_7 X hK hW hj hA hS m_260 dX5_clear_12 (fun H locs hW hS => ?_)
  refine lv_aload_n hx hb dX5_clear_15 rfl (lv_at hl 0 rfl) ?_
  refine lv_iconst (v := 0) hx hb dX5_clear_16 (by decide) ?_
  refine zp5_8 X hK hW hj hA hS m_262 dX5_clear_17 (fun H locs hW hS => ?_)
  refine lv_aload_n hx hb dX5_clear_20 rfl (lv_at hl 0 rfl) ?_
  refine zg5_4 X hK hW m_253 dX5_clear_21 ?_
  refine lv_iconst (v := 0) hx hb dX5_clear_24 (by decide) ?_
  refine zp0_0 X hK hW hj hA hS m_57 dX5_clear_25 (fun H locs hW hS => ?_)
  refine lv_aload_n hx hb dX5_clear_28 rfl (lv_at hl 0 rfl) ?_
  refine lv_iconst (v := 0) hx hb dX5_clear_29 (by decide) ?_
  refine zp5_9 X hK hW hj hA hS m_264 dX5_clear_30 (fun H locs hW hS => ?_)
  refine lv_aload_n hx hb dX5_clear_33 rfl (lv_at hl 0 rfl) ?_
  refine lv_sipush (v := 180) hx hb dX5_clear_34 (by decide) ?_
  refine zp5_10 X hK hW hj hA hS m_266 dX5_clear_37 (fun H locs hW hS => ?_)
  refine lv_aload_n hx hb dX5_clear_40 rfl (lv_at hl 0 rfl) ?_
  refine lv_lconst (v := 0) hx hb dX5_clear_41 rfl ?_
  refine zp5_11 X hK hW hj hA hS m_267 dX5_clear_42 (fun H locs hW hS => ?_)
  refine lv_aload_n hx hb dX5_clear_45 rfl (lv_at hl 0 rfl) ?_
  refine lv_iconst (v := 0) hx hb dX5_clear_46 (by decide) ?_
  refine zp5_12 X hK hW hj hA hS m_269 dX5_clear_47 (fun H locs hW hS => ?_)
  exact zm_v hx hb hr hlocks (by rw [f_X5_clear]; exact hW) hS dX5_clear_50
def f_X5_enrol (σ : zS) (x : Int32) (y : Int32) : zS := (zpI (f_X7_set σ ((zI σ 505 0).toNatClampNeg) x y) 505 0 ((zI (f_X7_set σ ((zI σ 505 0).toNatClampNeg) x y) 505 0) + 1))
def r_X5_enrol (σ : zS) (x : Int32) (y : Int32) : Int32 := (zI (zpI (f_X7_set σ ((zI σ 505 0).toNatClampNeg) x y) 505 0 ((zI (f_X7_set σ ((zI σ 505 0).toNatClampNeg) x y) 505 0) + 1)) 505 0) - 1
theorem zmX5_enrol : zmV yX5_enrol RX5 cX5_enrol 3 (some .int) 2 := ⟨m_468, s_3, m_2, m_469, rfl, by decide, by decide, by decide +kernel⟩
set_option maxRecDepth 100000 in
set_option maxHeartbeats 4000000 in
theorem ctX5_enrol (l : Launch) (D : va_G) (cy : Nat → ClassId) (ad : Nat → Nat → Nat) (σ : zS) (hj : zinj ad zsL) (x : Int32) (y : Int32) (h1 : vp_in (zI σ 505 0) 8) : Met l yX5_enrol (zw yX5_enrol cX5_enrol 3 (some .int)) (zrm 1) (va_Pc [.ref (ad 0 0), .int x, .int y] (zB D cy (zW D cy ad zsL σ))) (zqM (some (.int (r_X5_enrol σ x y))) (zW D cy ad zsL (f_X5_enrol σ x y)) (zrg ad zsL)) 0 0 (zrg ad zsL) := by
  refine zmet (by decide) rfl (Nat.le_of_ble_eq_true rfl) rfl (fun p e s m below meth c ls X hml hr hlocks hv hl => ?_)
  obtain ⟨hK, hW⟩ := hv
  obtain ⟨hx, hb, -, -⟩ := id X
  have hl : lv_has ls 3 [(0, .ref (ad 0 0)), (1, .int x), (2, .int y)] := hl
  have hS : va_S (zrg ad zsL) s.heap s.heap [] := va_S.rf
  generalize hAe : zrg ad zsL = A at hS ⊢
  have hA : ∀ q, zrg ad zsL q → A q := fun q h => by rw [← hAe]; exact h
  refine lv_aload_n hx hb dX5_enrol_0 rfl (lv_at hl 0 rfl) ?_
  refine zg5_0 X hK hW m_244 dX5_enrol_1 ?_
  refine lv_aload_n hx hb dX5_enrol_4 rfl (lv_at hl 0 rfl) ?_
  refine zg5_5 X hK hW m_255 dX5_enrol_5 ?_
  refine zr1 X hK hW h1 dX5_enrol_8 ?_
  refine lv_iload_n hx hb dX5_enrol_9 rfl (lv_at hl 1 rfl) ?_
  refine lv_iload_n hx hb dX5_enrol_10 rfl (lv_at hl 2 rfl) ?_
  refine zcallMV (As := [.int x, .int y]) (rest := []) X hml hK hW (ctX7_set l D cy ad σ hj ((zI σ 505 0).toNatClampNeg) (zvin h1) x y) zmX7_set (by decide) m_470 (zrecv hK (hW 10 ((zI σ 505 0).toNatClampNeg) rfl (zvin h1)) rfl) ⟨Nat.le_of_ble_eq_true rfl, Nat.le_of_ble_eq_true rfl⟩ ⟨Nat.zero_le _, Nat.zero_le _⟩ rfl hl.1 rfl (Nat.le_of_ble_eq_true rfl) dX5_enrol_11 hS hA (fun H locs hW hsz hfr hS => ?_)
  refine lv_aload_n hx hb dX5_enrol_14 rfl (lv_at hl 0 rfl) ?_
  refine lv_dup hx hb dX5_enrol_15 rfl ?_
  refine zg5_5 X hK hW m_255 dX5_enrol_16 ?_
  refine lv_iconst (v := 1) hx hb dX5_enrol_19 (by decide) ?_
  refine lv_iadd hx hb dX5_enrol_20 ?_
  refine zp5_5 X hK hW hj hA hS m_255 dX5_enrol_21 (fun H locs hW hS => ?_)
  refine lv_aload_n hx hb dX5_enrol_24 rfl (lv_at hl 0 rfl) ?_
  refine zg5_5 X hK hW m_255 dX5_enrol_25 ?_
  refine lv_iconst (v := 1) hx hb dX5_enrol_28 (by decide) ?_
  refine lv_isub hx hb dX5_enrol_29 ?_
  exact zm_i hx hb hr hlocks (by rw [r_X5_enrol]) (by rw [f_X5_enrol]; exact hW) hS dX5_enrol_30
def f_X5_relicense (σ : zS) (x : Int32) (y : Int32) (z : Int32) : zS := (f_X7_set σ x.toNatClampNeg y z)
def r_X5_relicense (σ : zS) (x : Int32) (y : Int32) (z : Int32) : Int32 := zI σ 600 x.toNatClampNeg
theorem zmX5_relicense : zmV yX5_relicense RX5 cX5_relicense 5 (some .int) 3 := ⟨m_476, s_4, m_2, m_477, rfl, by decide, by decide, by decide +kernel⟩
set_option maxRecDepth 100000 in
set_option maxHeartbeats 4000000 in
theorem ctX5_relicense (l : Launch) (D : va_G) (cy : Nat → ClassId) (ad : Nat → Nat → Nat) (σ : zS) (hj : zinj ad zsL) (x : Int32) (y : Int32) (z : Int32) (h1 : vp_in x 8) : Met l yX5_relicense (zw yX5_relicense cX5_relicense 5 (some .int)) (zrm 1) (va_Pc [.ref (ad 0 0), .int x, .int y, .int z] (zB D cy (zW D cy ad zsL σ))) (zqM (some (.int (r_X5_relicense σ x y z))) (zW D cy ad zsL (f_X5_relicense σ x y z)) (zrg ad zsL)) 0 0 (zrg ad zsL) := by
  refine zmet (by decide) rfl (Nat.le_of_ble_eq_true rfl) rfl (fun p e s m below meth c ls X hml hr hlocks hv hl => ?_)
  obtain ⟨hK, hW⟩ := hv
  obtain ⟨hx, hb, -, -⟩ := id X
  have hl : lv_has ls 5 [(0, .ref (ad 0 0)), (1, .int x), (2, .int y), (3, .int z)] := hl
  have hS : va_S (zrg ad zsL) s.heap s.heap [] := va_S.rf
  generalize hAe : zrg ad zsL = A at hS ⊢
  have hA : ∀ q, zrg ad zsL q → A q := fun q h => by rw [← hAe]; exact h
  refine lv_aload_n hx hb dX5_relicense_0 rfl (lv_at hl 0 rfl) ?_
  refine zg5_0 X hK hW m_244 dX5_relicense_1 ?_
  refine lv_iload_n hx hb dX5_relicense_4 rfl (lv_at hl 1 rfl) ?_
  refine zr1 X hK hW h1 dX5_relicense_5 ?_
  refine zg6_0 X hK hW (zvin h1) m_82 dX5_relicense_6 ?_
  refine lv_istore (lv' := [(4, .int (zI σ 600 x.toNatClampNeg)), (0, .ref (ad 0 0)), (1, .int x), (2, .int y), (3, .int z)]) hx hb dX5_relicense_9 hl (by decide) rfl (fun ls hl => ?_)
  refine lv_aload_n hx hb dX5_relicense_11 rfl (lv_at hl 1 rfl) ?_
  refine zg5_0 X hK hW m_244 dX5_relicense_12 ?_
  refine lv_iload_n hx hb dX5_relicense_15 rfl (lv_at hl 2 rfl) ?_
  refine zr1 X hK hW h1 dX5_relicense_16 ?_
  refine lv_iload_n hx hb dX5_relicense_17 rfl (lv_at hl 3 rfl) ?_
  refine lv_iload_n hx hb dX5_relicense_18 rfl (lv_at hl 4 rfl) ?_
  refine zcallMV (As := [.int y, .int z]) (rest := []) X hml hK hW (ctX7_set l D cy ad σ hj x.toNatClampNeg (zvin h1) y z) zmX7_set (by decide) m_470 (zrecv hK (hW 10 x.toNatClampNeg rfl (zvin h1)) rfl) ⟨Nat.le_of_ble_eq_true rfl, Nat.le_of_ble_eq_true rfl⟩ ⟨Nat.zero_le _, Nat.zero_le _⟩ rfl hl.1 rfl (Nat.le_of_ble_eq_true rfl) dX5_relicense_19 hS hA (fun H locs hW hsz hfr hS => ?_)
  refine lv_iload hx hb dX5_relicense_22 (lv_at hl 0 rfl) ?_
  exact zm_i hx hb hr hlocks (by rw [r_X5_relicense]) (by rw [f_X5_relicense]; exact hW) hS dX5_relicense_24
def f_X5_enter (σ : zS) (kd : Int32) (cl : Int32) (ln : Int32) (lf : Int32) : zS := (zpI (f_X1_begin σ ((zI σ 506 0).toNatClampNeg) kd cl ln lf (zI σ 509 0)) 506 0 ((zI (f_X1_begin σ ((zI σ 506 0).toNatClampNeg) kd cl ln lf (zI σ 509 0)) 506 0) + 1))
def r_X5_enter (σ : zS) (kd : Int32) (cl : Int32) (ln : Int32) (lf : Int32) : Int32 := (zI (zpI (f_X1_begin σ ((zI σ 506 0).toNatClampNeg) kd cl ln lf (zI σ 509 0)) 506 0 ((zI (f_X1_begin σ ((zI σ 506 0).toNatClampNeg) kd cl ln lf (zI σ 509 0)) 506 0) + 1)) 506 0) - 1
theorem zmX5_enter : zmV yX5_enter RX5 cX5_enter 5 (some .int) 4 := ⟨m_480, s_5, m_2, m_481, rfl, by decide, by decide, by decide +kernel⟩
set_option maxRecDepth 100000 in
set_option maxHeartbeats 4000000 in
theorem ctX5_enter (l : Launch) (D : va_G) (cy : Nat → ClassId) (ad : Nat → Nat → Nat) (σ : zS) (hj : zinj ad zsL) (kd : Int32) (cl : Int32) (ln : Int32) (lf : Int32) (h1 : vp_in (zI σ 506 0) 24) (hkd : narrow .char (.int kd) = .int kd ∧ fits .char (.int kd) = true) : Met l yX5_enter (zw yX5_enter cX5_enter 5 (some .int)) (zrm 1) (va_Pc [.ref (ad 0 0), .int kd, .int cl, .int ln, .int lf] (zB D cy (zW D cy ad zsL σ))) (zqM (some (.int (r_X5_enter σ kd cl ln lf))) (zW D cy ad zsL (f_X5_enter σ kd cl ln lf)) (zrg ad zsL)) 0 0 (zrg ad zsL) := by
  refine zmet (by decide) rfl (Nat.le_of_ble_eq_true rfl) rfl (fun p e s m below meth c ls X hml hr hlocks hv hl => ?_)
  obtain ⟨hK, hW⟩ := hv
  obtain ⟨hx, hb, -, -⟩ := id X
  have hl : lv_has ls 5 [(0, .ref (ad 0 0)), (1, .int kd), (2, .int cl), (3, .int ln), (4, .int lf)] := hl
  have hS : va_S (zrg ad zsL) s.heap s.heap [] := va_S.rf
  generalize hAe : zrg ad zsL = A at hS ⊢
  have hA : ∀ q, zrg ad zsL q → A q := fun q h => by rw [← hAe]; exact h
  refine lv_aload_n hx hb dX5_enter_0 rfl (lv_at hl 0 rfl) ?_
  refine zg5_1 X hK hW m_246 dX5_enter_1 ?_
  refine lv_aload_n hx hb dX5_enter_4 rfl (lv_at hl 0 rfl) ?_
  refine zg5_6 X hK hW m_257 dX5_enter_5 ?_
  refine zr2 X hK hW h1 dX5_enter_8 ?_
  refine lv_iload_n hx hb dX5_enter_9 rfl (lv_at hl 1 rfl) ?_
  refine lv_iload_n hx hb dX5_enter_10 rfl (lv_at hl 2 rfl) ?_
  refine lv_iload_n hx hb dX5_enter_11 rfl (lv_at hl 3 rfl) ?_
  refine lv_iload hx hb dX5_enter_12 (lv_at hl 4 rfl) ?_
  refine lv_aload_n hx hb dX5_enter_14 rfl (lv_at hl 0 rfl) ?_
  refine zg5_9 X hK hW m_264 dX5_enter_15 ?_
  refine zcallMV (As := [.int kd, .int cl, .int ln, .int lf, .int (zI σ 509 0)]) (rest := []) X hml hK hW (ctX1_begin l D cy ad σ hj ((zI σ 506 0).toNatClampNeg) (zvin h1) kd cl ln lf (zI σ 509 0) hkd) zmX1_begin (by decide) m_482 (zrecv hK (hW 11 ((zI σ 506 0).toNatClampNeg) rfl (zvin h1)) rfl) ⟨Nat.le_of_ble_eq_true rfl, Nat.le_of_ble_eq_true rfl⟩ ⟨Nat.zero_le _, Nat.zero_le _⟩ rfl hl.1 rfl (Nat.le_of_ble_eq_true rfl) dX5_enter_18 hS hA (fun H locs hW hsz hfr hS => ?_)
  refine lv_aload_n hx hb dX5_enter_21 rfl (lv_at hl 0 rfl) ?_
  refine lv_dup hx hb dX5_enter_22 rfl ?_
  refine zg5_6 X hK hW m_257 dX5_enter_23 ?_
  refine lv_iconst (v := 1) hx hb dX5_enter_26 (by decide) ?_
  refine lv_iadd hx hb dX5_enter_27 ?_
  refine zp5_6 X hK hW hj hA hS m_257 dX5_enter_28 (fun H locs hW hS => ?_)
  refine lv_aload_n hx hb dX5_enter_31 rfl (lv_at hl 0 rfl) ?_
  refine zg5_6 X hK hW m_257 dX5_enter_32 ?_
  refine lv_iconst (v := 1) hx hb dX5_enter_35 (by decide) ?_
  refine lv_isub hx hb dX5_enter_36 ?_
  exact zm_i hx hb hr hlocks (by rw [r_X5_enter]) (by rw [f_X5_enter]; exact hW) hS dX5_enter_37
def f_X5_changePeriod (σ : zS) (x : Int32) : zS := (zpI σ 510 0 x)
def r_X5_changePeriod (σ : zS) (x : Int32) : Int32 := zI σ 510 0
theorem zmX5_changePeriod : zmV yX5_changePeriod RX5 cX5_changePeriod 3 (some .int) 1 := ⟨m_488, s_6, m_2, m_489, rfl, by decide, by decide, by decide +kernel⟩
set_option maxRecDepth 100000 in
set_option maxHeartbeats 4000000 in
theorem ctX5_changePeriod (l : Launch) (D : va_G) (cy : Nat → ClassId) (ad : Nat → Nat → Nat) (σ : zS) (hj : zinj ad zsL) (x : Int32) : Met l yX5_changePeriod (zw yX5_changePeriod cX5_changePeriod 3 (some .int)) (zrm 0) (va_Pc [.ref (ad 0 0), .int x] (zB D cy (zW D cy ad zsL σ))) (zqM (some (.int (r_X5_changePeriod σ x))) (zW D cy ad zsL (f_X5_changePeriod σ x)) (zrg ad zsL)) 0 0 (zrg ad zsL) := by
  refine zmet (by decide) rfl (Nat.le_of_ble_eq_true rfl) rfl (fun p e s m below meth c ls X hml hr hlocks hv hl => ?_)
  obtain ⟨hK, hW⟩ := hv
  obtain ⟨hx, hb, -, -⟩ := id X
  have hl : lv_has ls 3 [(0, .ref (ad 0 0)), (1, .int x)] := hl
  have hS : va_S (zrg ad zsL) s.heap s.heap [] := va_S.rf
  generalize hAe : zrg ad zsL = A at hS ⊢
  have hA : ∀ q, zrg ad zsL q → A q := fun q h => by rw [← hAe]; exact h
  refine lv_aload_n hx hb dX5_changePeriod_0 rfl (lv_at hl 0 rfl) ?_
  refine zg5_10 X hK hW m_266 dX5_changePeriod_1 ?_
  refine lv_istore_n (lv' := [(2, .int (zI σ 510 0)), (0, .ref (ad 0 0)), (1, .int x)]) hx hb dX5_changePeriod_4 rfl hl (by decide) rfl (fun ls hl => ?_)
  refine lv_aload_n hx hb dX5_changePeriod_5 rfl (lv_at hl 1 rfl) ?_
  refine lv_iload_n hx hb dX5_changePeriod_6 rfl (lv_at hl 2 rfl) ?_
  refine zp5_10 X hK hW hj hA hS m_266 dX5_changePeriod_7 (fun H locs hW hS => ?_)
  refine lv_iload_n hx hb dX5_changePeriod_10 rfl (lv_at hl 0 rfl) ?_
  exact zm_i hx hb hr hlocks (by rw [r_X5_changePeriod]) (by rw [f_X5_changePeriod]; exact hW) hS dX5_changePeriod_11
def f_X5_letDaysPass (σ : zS) (x : Int32) : zS := (zpI σ 509 0 ((zI σ 509 0) + x))
def r_X5_letDaysPass (σ : zS) (x : Int32) : Int32 := zI (zpI σ 509 0 ((zI σ 509 0) + x)) 509 0
theorem zmX5_letDaysPass : zmV yX5_letDaysPass RX5 cX5_letDaysPass 2 (some .int) 1 := ⟨m_492, s_7, m_2, m_493, rfl, by decide, by decide, by decide +kernel⟩
set_option maxRecDepth 100000 in
set_option maxHeartbeats 4000000 in
theorem ctX5_letDaysPass (l : Launch) (D : va_G) (cy : Nat → ClassId) (ad : Nat → Nat → Nat) (σ : zS) (hj : zinj ad zsL) (x : Int32) : Met l yX5_letDaysPass (zw yX5_letDaysPass cX5_letDaysPass 2 (some .int)) (zrm 0) (va_Pc [.ref (ad 0 0), .int x] (zB D cy (zW D cy ad zsL σ))) (zqM (some (.int (r_X5_letDaysPass σ x))) (zW D cy ad zsL (f_X5_letDaysPass σ x)) (zrg ad zsL)) 0 0 (zrg ad zsL) := by
  refine zmet (by decide) rfl (Nat.le_of_ble_eq_true rfl) rfl (fun p e s m below meth c ls X hml hr hlocks hv hl => ?_)
  obtain ⟨hK, hW⟩ := hv
  obtain ⟨hx, hb, -, -⟩ := id X
  have hl : lv_has ls 2 [(0, .ref (ad 0 0)), (1, .int x)] := hl
  have hS : va_S (zrg ad zsL) s.heap s.heap [] := va_S.rf
  generalize hAe : zrg ad zsL = A at hS ⊢
  have hA : ∀ q, zrg ad zsL q → A q := fun q h => by rw [← hAe]; exact h
  refine lv_aload_n hx hb dX5_letDaysPass_0 rfl (lv_at hl 0 rfl) ?_
  refine lv_dup hx hb dX5_letDaysPass_1 rfl ?_
  refine zg5_9 X hK hW m_264 dX5_letDaysPass_2 ?_
  refine lv_iload_n hx hb dX5_letDaysPass_5 rfl (lv_at hl 1 rfl) ?_
  refine lv_iadd hx hb dX5_letDaysPass_6 ?_
  refine zp5_9 X hK hW hj hA hS m_264 dX5_letDaysPass_7 (fun H locs hW hS => ?_)
  refine lv_aload_n hx hb dX5_letDaysPass_10 rfl (lv_at hl 0 rfl) ?_
  refine zg5_9 X hK hW m_264 dX5_letDaysPass_11 ?_
  exact zm_i hx hb hr hlocks (by rw [r_X5_letDaysPass]) (by rw [f_X5_letDaysPass]; exact hW) hS dX5_letDaysPass_14
def f_X5_putOnHook (σ : zS) (x h : Int32) : zS := zpI (zpI (zpI σ 105 x.toNatClampNeg 112) 106 x.toNatClampNeg h) 107 x.toNatClampNeg 0
def r_X5_putOnHook (σ : zS) (x h : Int32) : Int32 := nI (zct (fun c => decide (zI (f_X5_putOnHook σ x h) 105 c = 112)) (zn σ 506))
theorem zmX5_putOnHook : zmV yX5_putOnHook RX5 cX5_putOnHook 6 (some .int) 2 := ⟨m_496, s_8, m_2, m_497, rfl, by decide, by decide, by decide +kernel⟩
set_option maxRecDepth 100000 in
set_option maxHeartbeats 4000000 in
theorem ctX5_putOnHook (l : Launch) (D : va_G) (cy : Nat → ClassId) (ad : Nat → Nat → Nat) (σ : zS) (hj : zinj ad zsL) (x : Int32) (h : Int32) (h1 : vp_in x 24) (hc : zbd σ 506 24) : Met l yX5_putOnHook (zw yX5_putOnHook cX5_putOnHook 6 (some .int)) (zrm 0) (va_Pc [.ref (ad 0 0), .int x, .int h] (zB D cy (zW D cy ad zsL σ))) (zqM (some (.int (r_X5_putOnHook σ x h))) (zW D cy ad zsL (f_X5_putOnHook σ x h)) (zrg ad zsL)) 0 0 (zrg ad zsL) := by
  refine zmet (by decide) rfl (Nat.le_of_ble_eq_true rfl) rfl (fun p e s m below meth c ls X hml hr hlocks hv hl => ?_)
  obtain ⟨hK, hW⟩ := hv
  obtain ⟨hx, hb, -, -⟩ := id X
  have hl : lv_has ls 6 [(0, .ref (ad 0 0)), (1, .int x), (2, .int h)] := hl
  have hS : va_S (zrg ad zsL) s.heap s.heap [] := va_S.rf
  generalize hAe : zrg ad zsL = A at hS ⊢
  have hA : ∀ q, zrg ad zsL q → A q := fun q h => by rw [← hAe]; exact h
  refine lv_aload_n hx hb dX5_putOnHook_0 rfl (lv_at hl 0 rfl) ?_
  refine zg5_1 X hK hW m_246 dX5_putOnHook_1 ?_
  refine lv_iload_n hx hb dX5_putOnHook_4 rfl (lv_at hl 1 rfl) ?_
  refine zr2 X hK hW h1 dX5_putOnHook_5 ?_
  refine lv_astore_n (lv' := [(3, .ref (ad 11 x.toNatClampNeg)), (0, .ref (ad 0 0)), (1, .int x), (2, .int h)]) hx hb dX5_putOnHook_6 rfl hl (by decide) rfl (fun ls hl => ?_)
  refine lv_aload_n hx hb dX5_putOnHook_7 rfl (lv_at hl 0 rfl) ?_
  refine lv_bipush (v := 112) hx hb dX5_putOnHook_8 (by decide) ?_
  refine zp1_5 X hK hW hj hA hS (zvin h1) rfl rfl m_107 dX5_putOnHook_10 (fun H locs hW hS => ?_)
  refine lv_aload_n hx hb dX5_putOnHook_13 rfl (lv_at hl 0 rfl) ?_
  refine lv_iload_n hx hb dX5_putOnHook_14 rfl (lv_at hl 3 rfl) ?_
  refine zp1_6 X hK hW hj hA hS (zvin h1) m_110 dX5_putOnHook_15 (fun H locs hW hS => ?_)
  refine lv_aload_n hx hb dX5_putOnHook_18 rfl (lv_at hl 0 rfl) ?_
  refine lv_iconst (v := 0) hx hb dX5_putOnHook_19 (by decide) ?_
  refine zp1_7 X hK hW hj hA hS (zvin h1) m_113 dX5_putOnHook_20 (fun H locs hW hS => ?_)
  refine lv_iconst (v := 0) hx hb dX5_putOnHook_23 (by decide) ?_
  refine lv_istore (lv' := [(4, .int 0), (3, .ref (ad 11 x.toNatClampNeg)), (0, .ref (ad 0 0)), (1, .int x), (2, .int h)]) hx hb dX5_putOnHook_24 hl (by decide) rfl (fun ls hl => ?_)
  refine lv_iconst (v := 0) hx hb dX5_putOnHook_26 (by decide) ?_
  refine lv_istore (lv' := [(5, .int 0), (4, .int 0), (3, .ref (ad 11 x.toNatClampNeg)), (0, .ref (ad 0 0)), (1, .int x), (2, .int h)]) hx hb dX5_putOnHook_27 hl (by decide) rfl (fun ls hl => ?_)
  have loop29 : ∀ (n : Nat) (k : Nat) (a : Int32) (ls : Array Slot), lv_has ls 6 [(0, .ref (ad 0 0)), (1, .int x), (2, .int h), (3, .ref (ad 11 x.toNatClampNeg)), (4, .int a), (5, .int (nI k))] → zn σ 506 - k < n → (k ≤ zn σ 506) → (a = nI (zct (fun c => decide (zI (f_X5_putOnHook σ x h) 105 c = 112)) k)) → W p l e (zrm 0) s m ([.ref (ad 0 0), .int x, .int h] : List Value).toArray below meth c H locs 0 0 (MQ below (zqM (some (.int (r_X5_putOnHook σ x h))) (zW D cy ad zsL (f_X5_putOnHook σ x h)) A) ([.ref (ad 0 0), .int x, .int h] : List Value).toArray s 0 0 A) (F0 m 29 ls []) := by
    intro n
    induction n with
    | zero => intro k a ls hl hm hk ha; exact absurd hm (Nat.not_lt_zero _)
    | succ n ih29 =>
      intro k a ls hl hm hk ha
      refine lv_iload hx hb dX5_putOnHook_29 (lv_at hl 5 rfl) ?_
      refine lv_aload_n hx hb dX5_putOnHook_31 rfl (lv_at hl 0 rfl) ?_
      refine zg5_6 X hK hW m_257 dX5_putOnHook_32 ?_
      refine lv_icmp_ge (tgt := 62) hx hb dX5_putOnHook_35 (by decide) (fun b1 => ?_) (fun b1 => ?_)
      · refine lv_iload hx hb dX5_putOnHook_62 (lv_at hl 4 rfl) ?_
        exact zm_i hx hb hr hlocks (by rw [ha, zge_of hc (by decide) hk b1]; rfl) hW hS dX5_putOnHook_64
      · have hlt : k < zn σ 506 := zlt_of hc (by decide) hk b1
        have hltN := Nat.lt_of_lt_of_le hlt hc.2
        refine lv_aload_n hx hb dX5_putOnHook_38 rfl (lv_at hl 0 rfl) ?_
        refine zg5_1 X hK hW m_246 dX5_putOnHook_39 ?_
        refine lv_iload hx hb dX5_putOnHook_42 (lv_at hl 5 rfl) ?_
        refine zrn2 X hK hW (by omega) dX5_putOnHook_44 ?_
        refine zg1_5 X hK hW (by omega) m_107 dX5_putOnHook_45 ?_
        refine lv_bipush (v := 112) hx hb dX5_putOnHook_48 (by decide) ?_
        refine lv_icmp_ne (tgt := 56) hx hb dX5_putOnHook_50 (by decide) (fun b2 => ?_) (fun b2 => ?_)
        · refine lv_iinc (v := nI (k + 1)) (lv' := [(5, .int (nI (k + 1))), (0, .ref (ad 0 0)), (1, .int x), (2, .int h), (3, .ref (ad 11 x.toNatClampNeg)), (4, .int a)]) hx hb dX5_putOnHook_56 hl (k := 5) rfl (nI_1 k) (by decide) rfl (fun ls hl => ?_)
          refine lv_goto (tgt := 29) hx hb dX5_putOnHook_59 (by decide) ?_
          exact ih29 (k + 1) a _ (lv_sub hl [1, 2, 3, 4, 5, 0] rfl) (by omega) hlt (by rw [ha, zct, if_neg (by simp [f_X5_putOnHook, b1, Int32.not_le.mp b1, b2, Ne.symm b2]), Nat.add_zero])
        · refine lv_iinc (v := a + 1) (lv' := [(4, .int (a + 1)), (0, .ref (ad 0 0)), (1, .int x), (2, .int h), (3, .ref (ad 11 x.toNatClampNeg)), (5, .int (nI k))]) hx hb dX5_putOnHook_53 hl (k := 4) rfl rfl (by decide) rfl (fun ls hl => ?_)
          refine lv_iinc (v := nI (k + 1)) (lv' := [(5, .int (nI (k + 1))), (4, .int (a + 1)), (0, .ref (ad 0 0)), (1, .int x), (2, .int h), (3, .ref (ad 11 x.toNatClampNeg))]) hx hb dX5_putOnHook_56 hl (k := 5) rfl (nI_1 k) (by decide) rfl (fun ls hl => ?_)
          refine lv_goto (tgt := 29) hx hb dX5_putOnHook_59 (by decide) ?_
          exact ih29 (k + 1) (a + 1) _ (lv_sub hl [2, 3, 4, 5, 1, 0] rfl) (by omega) hlt (by rw [ha, zct, if_pos (by simp [f_X5_putOnHook, b1, Int32.not_le.mp b1, b2]), ← nI_1])
  exact loop29 _ 0 0 _ (lv_sub hl [3, 4, 5, 2, 1, 0] rfl) (Nat.lt_succ_self _) (Nat.zero_le _) rfl
def f_X5_takeOffHook (σ : zS) (u : Nat) : zS := (zpI (zpI (zpI σ 105 u 111) 106 u (-1)) 107 u 0)
def r_X5_takeOffHook (σ : zS) (u : Nat) : Int32 := zI σ 107 u
theorem zmX5_takeOffHook : zmV yX5_takeOffHook RX5 cX5_takeOffHook 3 (some .int) 1 := ⟨m_512, s_11, m_2, m_513, rfl, by decide, by decide, by decide +kernel⟩
set_option maxRecDepth 100000 in
set_option maxHeartbeats 4000000 in
theorem ctX5_takeOffHook (l : Launch) (D : va_G) (cy : Nat → ClassId) (ad : Nat → Nat → Nat) (σ : zS) (hj : zinj ad zsL) (u : Nat) (hi_u : u < 24) : Met l yX5_takeOffHook (zw yX5_takeOffHook cX5_takeOffHook 3 (some .int)) (zrm 0) (va_Pc [.ref (ad 0 0), .ref (ad 11 u)] (zB D cy (zW D cy ad zsL σ))) (zqM (some (.int (r_X5_takeOffHook σ u))) (zW D cy ad zsL (f_X5_takeOffHook σ u)) (zrg ad zsL)) 0 0 (zrg ad zsL) := by
  refine zmet (by decide) rfl (Nat.le_of_ble_eq_true rfl) rfl (fun p e s m below meth c ls X hml hr hlocks hv hl => ?_)
  obtain ⟨hK, hW⟩ := hv
  obtain ⟨hx, hb, -, -⟩ := id X
  have hl : lv_has ls 3 [(0, .ref (ad 0 0)), (1, .ref (ad 11 u))] := hl
  have hS : va_S (zrg ad zsL) s.heap s.heap [] := va_S.rf
  generalize hAe : zrg ad zsL = A at hS ⊢
  have hA : ∀ q, zrg ad zsL q → A q := fun q h => by rw [← hAe]; exact h
  refine lv_aload_n hx hb dX5_takeOffHook_0 rfl (lv_at hl 1 rfl) ?_
  refine zg1_7 X hK hW hi_u m_113 dX5_takeOffHook_1 ?_
  refine lv_istore_n (lv' := [(2, .int (zI σ 107 u)), (0, .ref (ad 0 0)), (1, .ref (ad 11 u))]) hx hb dX5_takeOffHook_4 rfl hl (by decide) rfl (fun ls hl => ?_)
  refine lv_aload_n hx hb dX5_takeOffHook_5 rfl (lv_at hl 2 rfl) ?_
  refine lv_bipush (v := 111) hx hb dX5_takeOffHook_6 (by decide) ?_
  refine zp1_5 X hK hW hj hA hS hi_u rfl rfl m_107 dX5_takeOffHook_8 (fun H locs hW hS => ?_)
  refine lv_aload_n hx hb dX5_takeOffHook_11 rfl (lv_at hl 2 rfl) ?_
  refine lv_iconst (v := (-1)) hx hb dX5_takeOffHook_12 (by decide) ?_
  refine zp1_6 X hK hW hj hA hS hi_u m_110 dX5_takeOffHook_13 (fun H locs hW hS => ?_)
  refine lv_aload_n hx hb dX5_takeOffHook_16 rfl (lv_at hl 2 rfl) ?_
  refine lv_iconst (v := 0) hx hb dX5_takeOffHook_17 (by decide) ?_
  refine zp1_7 X hK hW hj hA hS hi_u m_113 dX5_takeOffHook_18 (fun H locs hW hS => ?_)
  refine lv_iload_n hx hb dX5_takeOffHook_21 rfl (lv_at hl 0 rfl) ?_
  exact zm_i hx hb hr hlocks (by rw [r_X5_takeOffHook]) (by rw [f_X5_takeOffHook]; exact hW) hS dX5_takeOffHook_22
theorem zbd_wr {σ : zS} {u : Nat} {ow hkk dy : Int32} (h : zbd σ 0 86) : zbd (f_X0_write σ u ow hkk dy) 0 86 := by
  unfold f_X0_write
  split
  · exact h
  · rename_i h9
    have h8 : zn σ 0 < 86 := by
      rw [h.1] at h9
      exact zlt_c (N := 86) (by decide) h.2 h9
    have e : zI (zpI (k_wr (zpA (zpA (zpA σ 6 0 (zI σ 0 0).toNatClampNeg ow) 7 0 (zI σ 0 0).toNatClampNeg hkk) 8 0 (zI σ 0 0).toNatClampNeg dy) u (zI σ 0 0).toNatClampNeg 5) 0 0 (zI σ 0 0 + 1)) 0 0 = nI (zn σ 0 + 1) := by
      rw [zI_pI, if_pos ⟨rfl, rfl⟩, h.1, nI_1]
    refine ⟨?_, ?_⟩
    · unfold zn
      rw [e, nI_clamp (by omega)]
    · unfold zn at h8 ⊢
      rw [e, nI_clamp (by unfold zn; omega)]
      unfold zn
      omega
theorem zbd_pI {σ : zS} {f i g N : Nat} {v : Int32} (hg : g ≠ f) (h : zbd σ g N) : zbd (zpI σ f i v) g N := by
  unfold zbd zn at *
  rw [zI_pI, if_neg (fun z => hg z.1)]
  exact h
theorem zbd_pL {σ : zS} {f i g N : Nat} {v : Int64} (h : zbd σ g N) : zbd (zpL σ f i v) g N := h
theorem zbd_pA {σ : zS} {k i j g N : Nat} {v : Int32} (h : zbd σ g N) : zbd (zpA σ k i j v) g N := h
def f_X5_endPacking (σ : zS) (x : Int32) : zS := if k_has (f_X0_write σ x.toNatClampNeg x (zI σ 106 x.toNatClampNeg) (zI σ 509 0)) 0 (r_X0_write σ x.toNatClampNeg x (zI σ 106 x.toNatClampNeg) (zI σ 509 0)) = false then (zpI (f_X5_takeOffHook (f_X0_write σ x.toNatClampNeg x (zI σ 106 x.toNatClampNeg) (zI σ 509 0)) x.toNatClampNeg) 105 x.toNatClampNeg 107) else (zpI (f_X5_takeOffHook (zpL (zpI (zpI (zpI (f_X0_write σ x.toNatClampNeg x (zI σ 106 x.toNatClampNeg) (zI σ 509 0)) 110 x.toNatClampNeg (r_X0_write σ x.toNatClampNeg x (zI σ 106 x.toNatClampNeg) (zI σ 509 0))) 109 x.toNatClampNeg ((zI (zpI (f_X0_write σ x.toNatClampNeg x (zI σ 106 x.toNatClampNeg) (zI σ 509 0)) 110 x.toNatClampNeg (r_X0_write σ x.toNatClampNeg x (zI σ 106 x.toNatClampNeg) (zI σ 509 0))) 109 x.toNatClampNeg) + 1)) 111 x.toNatClampNeg ((zI (zpI (zpI (f_X0_write σ x.toNatClampNeg x (zI σ 106 x.toNatClampNeg) (zI σ 509 0)) 110 x.toNatClampNeg (r_X0_write σ x.toNatClampNeg x (zI σ 106 x.toNatClampNeg) (zI σ 509 0))) 109 x.toNatClampNeg ((zI (zpI (f_X0_write σ x.toNatClampNeg x (zI σ 106 x.toNatClampNeg) (zI σ 509 0)) 110 x.toNatClampNeg (r_X0_write σ x.toNatClampNeg x (zI σ 106 x.toNatClampNeg) (zI σ 509 0))) 109 x.toNatClampNeg) + 1)) 111 x.toNatClampNeg) ||| (1 <<< ((zI (zpI (zpI (f_X0_write σ x.toNatClampNeg x (zI σ 106 x.toNatClampNeg) (zI σ 509 0)) 110 x.toNatClampNeg (r_X0_write σ x.toNatClampNeg x (zI σ 106 x.toNatClampNeg) (zI σ 509 0))) 109 x.toNatClampNeg ((zI (zpI (f_X0_write σ x.toNatClampNeg x (zI σ 106 x.toNatClampNeg) (zI σ 509 0)) 110 x.toNatClampNeg (r_X0_write σ x.toNatClampNeg x (zI σ 106 x.toNatClampNeg) (zI σ 509 0))) 109 x.toNatClampNeg) + 1)) 106 x.toNatClampNeg) &&& 31)))) 112 x.toNatClampNeg ((zL (zpI (zpI (zpI (f_X0_write σ x.toNatClampNeg x (zI σ 106 x.toNatClampNeg) (zI σ 509 0)) 110 x.toNatClampNeg (r_X0_write σ x.toNatClampNeg x (zI σ 106 x.toNatClampNeg) (zI σ 509 0))) 109 x.toNatClampNeg ((zI (zpI (f_X0_write σ x.toNatClampNeg x (zI σ 106 x.toNatClampNeg) (zI σ 509 0)) 110 x.toNatClampNeg (r_X0_write σ x.toNatClampNeg x (zI σ 106 x.toNatClampNeg) (zI σ 509 0))) 109 x.toNatClampNeg) + 1)) 111 x.toNatClampNeg ((zI (zpI (zpI (f_X0_write σ x.toNatClampNeg x (zI σ 106 x.toNatClampNeg) (zI σ 509 0)) 110 x.toNatClampNeg (r_X0_write σ x.toNatClampNeg x (zI σ 106 x.toNatClampNeg) (zI σ 509 0))) 109 x.toNatClampNeg ((zI (zpI (f_X0_write σ x.toNatClampNeg x (zI σ 106 x.toNatClampNeg) (zI σ 509 0)) 110 x.toNatClampNeg (r_X0_write σ x.toNatClampNeg x (zI σ 106 x.toNatClampNeg) (zI σ 509 0))) 109 x.toNatClampNeg) + 1)) 111 x.toNatClampNeg) ||| (1 <<< ((zI (zpI (zpI (f_X0_write σ x.toNatClampNeg x (zI σ 106 x.toNatClampNeg) (zI σ 509 0)) 110 x.toNatClampNeg (r_X0_write σ x.toNatClampNeg x (zI σ 106 x.toNatClampNeg) (zI σ 509 0))) 109 x.toNatClampNeg ((zI (zpI (f_X0_write σ x.toNatClampNeg x (zI σ 106 x.toNatClampNeg) (zI σ 509 0)) 110 x.toNatClampNeg (r_X0_write σ x.toNatClampNeg x (zI σ 106 x.toNatClampNeg) (zI σ 509 0))) 109 x.toNatClampNeg) + 1)) 106 x.toNatClampNeg) &&& 31)))) 112 x.toNatClampNeg) ||| (k_hands (zpI (zpI (zpI (f_X0_write σ x.toNatClampNeg x (zI σ 106 x.toNatClampNeg) (zI σ 509 0)) 110 x.toNatClampNeg (r_X0_write σ x.toNatClampNeg x (zI σ 106 x.toNatClampNeg) (zI σ 509 0))) 109 x.toNatClampNeg ((zI (zpI (f_X0_write σ x.toNatClampNeg x (zI σ 106 x.toNatClampNeg) (zI σ 509 0)) 110 x.toNatClampNeg (r_X0_write σ x.toNatClampNeg x (zI σ 106 x.toNatClampNeg) (zI σ 509 0))) 109 x.toNatClampNeg) + 1)) 111 x.toNatClampNeg ((zI (zpI (zpI (f_X0_write σ x.toNatClampNeg x (zI σ 106 x.toNatClampNeg) (zI σ 509 0)) 110 x.toNatClampNeg (r_X0_write σ x.toNatClampNeg x (zI σ 106 x.toNatClampNeg) (zI σ 509 0))) 109 x.toNatClampNeg ((zI (zpI (f_X0_write σ x.toNatClampNeg x (zI σ 106 x.toNatClampNeg) (zI σ 509 0)) 110 x.toNatClampNeg (r_X0_write σ x.toNatClampNeg x (zI σ 106 x.toNatClampNeg) (zI σ 509 0))) 109 x.toNatClampNeg) + 1)) 111 x.toNatClampNeg) ||| (1 <<< ((zI (zpI (zpI (f_X0_write σ x.toNatClampNeg x (zI σ 106 x.toNatClampNeg) (zI σ 509 0)) 110 x.toNatClampNeg (r_X0_write σ x.toNatClampNeg x (zI σ 106 x.toNatClampNeg) (zI σ 509 0))) 109 x.toNatClampNeg ((zI (zpI (f_X0_write σ x.toNatClampNeg x (zI σ 106 x.toNatClampNeg) (zI σ 509 0)) 110 x.toNatClampNeg (r_X0_write σ x.toNatClampNeg x (zI σ 106 x.toNatClampNeg) (zI σ 509 0))) 109 x.toNatClampNeg) + 1)) 106 x.toNatClampNeg) &&& 31)))) (r_X0_write σ x.toNatClampNeg x (zI σ 106 x.toNatClampNeg) (zI σ 509 0)).toNatClampNeg))) x.toNatClampNeg) 105 x.toNatClampNeg 107)
theorem zmX5_endPacking : zmV yX5_endPacking RX5 cX5_endPacking 4 none 1 := ⟨m_504, s_10, m_2, m_505, rfl, by decide, by decide, by decide +kernel⟩
set_option maxRecDepth 100000 in
set_option maxHeartbeats 4000000 in
theorem ctX5_endPacking (l : Launch) (D : va_G) (cy : Nat → ClassId) (ad : Nat → Nat → Nat) (σ : zS) (hj : zinj ad zsL) (x : Int32) (h1 : vp_in x 24) (hc : zbd σ 0 86) : Met l yX5_endPacking (zw yX5_endPacking cX5_endPacking 4 none) (zrm 1) (va_Pc [.ref (ad 0 0), .int x] (zB D cy (zW D cy ad zsL σ))) (zqM none (zW D cy ad zsL (f_X5_endPacking σ x)) (zrg ad zsL)) 0 0 (zrg ad zsL) := by
  refine zmet (by decide) rfl (Nat.le_of_ble_eq_true rfl) rfl (fun p e s m below meth c ls X hml hr hlocks hv hl => ?_)
  obtain ⟨hK, hW⟩ := hv
  obtain ⟨hx, hb, -, -⟩ := id X
  have hl : lv_has ls 4 [(0, .ref (ad 0 0)), (1, .int x)] := hl
  have hS : va_S (zrg ad zsL) s.heap s.heap [] := va_S.rf
  generalize hAe : zrg ad zsL = A at hS ⊢
  have hA : ∀ q, zrg ad zsL q → A q := fun q h => by rw [← hAe]; exact h
  refine lv_aload_n hx hb dX5_endPacking_0 rfl (lv_at hl 0 rfl) ?_
  refine zg5_1 X hK hW m_246 dX5_endPacking_1 ?_
  refine lv_iload_n hx hb dX5_endPacking_4 rfl (lv_at hl 1 rfl) ?_
  refine zr2 X hK hW h1 dX5_endPacking_5 ?_
  refine lv_astore_n (lv' := [(2, .ref (ad 11 x.toNatClampNeg)), (0, .ref (ad 0 0)), (1, .int x)]) hx hb dX5_endPacking_6 rfl hl (by decide) rfl (fun ls hl => ?_)
  refine lv_aload_n hx hb dX5_endPacking_7 rfl (lv_at hl 1 rfl) ?_
  refine zg5_4 X hK hW m_253 dX5_endPacking_8 ?_
  refine lv_iload_n hx hb dX5_endPacking_11 rfl (lv_at hl 2 rfl) ?_
  refine lv_aload_n hx hb dX5_endPacking_12 rfl (lv_at hl 0 rfl) ?_
  refine zg1_6 X hK hW (zvin h1) m_110 dX5_endPacking_13 ?_
  refine lv_aload_n hx hb dX5_endPacking_16 rfl (lv_at hl 1 rfl) ?_
  refine zg5_9 X hK hW m_264 dX5_endPacking_17 ?_
  refine lv_aload_n hx hb dX5_endPacking_20 rfl (lv_at hl 0 rfl) ?_
  refine zg1_8 X hK hW (zvin h1) m_116 dX5_endPacking_21 ?_
  refine zcallMV (As := [.int x, .int (zI σ 106 x.toNatClampNeg), .int (zI σ 509 0), .ref (ad 12 x.toNatClampNeg)]) (rest := []) X hml hK hW (ctX0_write l D cy ad σ hj x (zI σ 106 x.toNatClampNeg) (zI σ 509 0) x.toNatClampNeg (zvin h1) hc) zmX0_write (by decide) m_506 (zrecv hK (hW 5 0 rfl (by decide)) rfl) ⟨Nat.le_of_ble_eq_true rfl, Nat.le_of_ble_eq_true rfl⟩ ⟨Nat.zero_le _, Nat.zero_le _⟩ rfl hl.1 rfl (Nat.le_of_ble_eq_true rfl) dX5_endPacking_24 hS hA (fun H locs hW hsz hfr hS => ?_)
  refine lv_istore_n (lv' := [(3, .int (r_X0_write σ x.toNatClampNeg x (zI σ 106 x.toNatClampNeg) (zI σ 509 0))), (2, .ref (ad 11 x.toNatClampNeg)), (0, .ref (ad 0 0)), (1, .int x)]) hx hb dX5_endPacking_27 rfl hl (by decide) rfl (fun ls hl => ?_)
  refine lv_aload_n hx hb dX5_endPacking_28 rfl (lv_at hl 2 rfl) ?_
  refine zg5_4 X hK hW m_253 dX5_endPacking_29 ?_
  refine lv_iload_n hx hb dX5_endPacking_32 rfl (lv_at hl 0 rfl) ?_
  refine zcallRV (As := [.int (r_X0_write σ x.toNatClampNeg x (zI σ 106 x.toNatClampNeg) (zI σ 509 0))]) (rest := []) X hml hK hW (ctX0_has l D cy ad (f_X0_write σ x.toNatClampNeg x (zI σ 106 x.toNatClampNeg) (zI σ 509 0)) (r_X0_write σ x.toNatClampNeg x (zI σ 106 x.toNatClampNeg) (zI σ 509 0))) zmX0_has (by decide) m_412 (zrecv hK (hW 5 0 rfl (by decide)) rfl) ⟨Nat.le_of_ble_eq_true rfl, Nat.le_of_ble_eq_true rfl⟩ ⟨Nat.zero_le _, Nat.zero_le _⟩ rfl hl.1 rfl (Nat.le_of_ble_eq_true rfl) dX5_endPacking_33 ?_
  refine zb_eq (tgt := 86) hx hb dX5_endPacking_36 (by decide) (fun b1 => ?_) (fun b1 => ?_)
  · refine lv_aload_n hx hb dX5_endPacking_86 rfl (lv_at hl 2 rfl) ?_
    refine lv_aload_n hx hb dX5_endPacking_87 rfl (lv_at hl 1 rfl) ?_
    refine zcallMV (As := [.ref (ad 11 x.toNatClampNeg)]) (rest := []) X hml hK hW (ctX5_takeOffHook l D cy ad (f_X0_write σ x.toNatClampNeg x (zI σ 106 x.toNatClampNeg) (zI σ 509 0)) hj x.toNatClampNeg (zvin h1)) zmX5_takeOffHook (by decide) m_510 (zrecv hK (hW 0 0 rfl (by decide)) rfl) ⟨Nat.le_of_ble_eq_true rfl, Nat.le_of_ble_eq_true rfl⟩ ⟨Nat.zero_le _, Nat.zero_le _⟩ rfl hl.1 rfl (Nat.le_of_ble_eq_true rfl) dX5_endPacking_88 hS hA (fun H locs hW hsz hfr hS => ?_)
    refine lv_pop hx hb dX5_endPacking_91 rfl ?_
    refine lv_aload_n hx hb dX5_endPacking_92 rfl (lv_at hl 1 rfl) ?_
    refine lv_bipush (v := 107) hx hb dX5_endPacking_93 (by decide) ?_
    refine zp1_5 X hK hW hj hA hS (zvin h1) rfl rfl m_107 dX5_endPacking_95 (fun H locs hW hS => ?_)
    exact zm_v hx hb hr hlocks (by rw [f_X5_endPacking, if_pos b1]; exact hW) hS dX5_endPacking_98
  · have hhas := b1
    refine lv_aload_n hx hb dX5_endPacking_39 rfl (lv_at hl 1 rfl) ?_
    refine lv_iload_n hx hb dX5_endPacking_40 rfl (lv_at hl 0 rfl) ?_
    refine zp1_10 X hK hW hj hA hS (zvin h1) m_121 dX5_endPacking_41 (fun H locs hW hS => ?_)
    refine lv_aload_n hx hb dX5_endPacking_44 rfl (lv_at hl 1 rfl) ?_
    refine lv_dup hx hb dX5_endPacking_45 rfl ?_
    refine zg1_9 X hK hW (zvin h1) m_118 dX5_endPacking_46 ?_
    refine lv_iconst (v := 1) hx hb dX5_endPacking_49 (by decide) ?_
    refine lv_iadd hx hb dX5_endPacking_50 ?_
    refine zp1_9 X hK hW hj hA hS (zvin h1) m_118 dX5_endPacking_51 (fun H locs hW hS => ?_)
    refine lv_aload_n hx hb dX5_endPacking_54 rfl (lv_at hl 1 rfl) ?_
    refine lv_dup hx hb dX5_endPacking_55 rfl ?_
    refine zg1_11 X hK hW (zvin h1) m_123 dX5_endPacking_56 ?_
    refine lv_iconst (v := 1) hx hb dX5_endPacking_59 (by decide) ?_
    refine lv_aload_n hx hb dX5_endPacking_60 rfl (lv_at hl 1 rfl) ?_
    refine zg1_6 X hK hW (zvin h1) m_110 dX5_endPacking_61 ?_
    refine lv_ishl hx hb dX5_endPacking_64 ?_
    refine lv_ior hx hb dX5_endPacking_65 ?_
    refine zp1_11 X hK hW hj hA hS (zvin h1) m_123 dX5_endPacking_66 (fun H locs hW hS => ?_)
    refine lv_aload_n hx hb dX5_endPacking_69 rfl (lv_at hl 1 rfl) ?_
    refine lv_dup hx hb dX5_endPacking_70 rfl ?_
    refine zg1_12 X hK hW (zvin h1) m_125 dX5_endPacking_71 ?_
    refine lv_aload_n hx hb dX5_endPacking_74 rfl (lv_at hl 2 rfl) ?_
    refine zg5_4 X hK hW m_253 dX5_endPacking_75 ?_
    refine lv_iload_n hx hb dX5_endPacking_78 rfl (lv_at hl 0 rfl) ?_
    refine zcallRV (As := [.int (r_X0_write σ x.toNatClampNeg x (zI σ 106 x.toNatClampNeg) (zI σ 509 0))]) (rest := [.long (zL (zpI (zpI (zpI (f_X0_write σ x.toNatClampNeg x (zI σ 106 x.toNatClampNeg) (zI σ 509 0)) 110 x.toNatClampNeg (r_X0_write σ x.toNatClampNeg x (zI σ 106 x.toNatClampNeg) (zI σ 509 0))) 109 x.toNatClampNeg ((zI (zpI (f_X0_write σ x.toNatClampNeg x (zI σ 106 x.toNatClampNeg) (zI σ 509 0)) 110 x.toNatClampNeg (r_X0_write σ x.toNatClampNeg x (zI σ 106 x.toNatClampNeg) (zI σ 509 0))) 109 x.toNatClampNeg) + 1)) 111 x.toNatClampNeg ((zI (zpI (zpI (f_X0_write σ x.toNatClampNeg x (zI σ 106 x.toNatClampNeg) (zI σ 509 0)) 110 x.toNatClampNeg (r_X0_write σ x.toNatClampNeg x (zI σ 106 x.toNatClampNeg) (zI σ 509 0))) 109 x.toNatClampNeg ((zI (zpI (f_X0_write σ x.toNatClampNeg x (zI σ 106 x.toNatClampNeg) (zI σ 509 0)) 110 x.toNatClampNeg (r_X0_write σ x.toNatClampNeg x (zI σ 106 x.toNatClampNeg) (zI σ 509 0))) 109 x.toNatClampNeg) + 1)) 111 x.toNatClampNeg) ||| (1 <<< ((zI (zpI (zpI (f_X0_write σ x.toNatClampNeg x (zI σ 106 x.toNatClampNeg) (zI σ 509 0)) 110 x.toNatClampNeg (r_X0_write σ x.toNatClampNeg x (zI σ 106 x.toNatClampNeg) (zI σ 509 0))) 109 x.toNatClampNeg ((zI (zpI (f_X0_write σ x.toNatClampNeg x (zI σ 106 x.toNatClampNeg) (zI σ 509 0)) 110 x.toNatClampNeg (r_X0_write σ x.toNatClampNeg x (zI σ 106 x.toNatClampNeg) (zI σ 509 0))) 109 x.toNatClampNeg) + 1)) 106 x.toNatClampNeg) &&& 31)))) 112 x.toNatClampNeg), .ref (ad 11 x.toNatClampNeg)]) X hml hK hW (ctX0_handsOf l D cy ad (zpI (zpI (zpI (f_X0_write σ x.toNatClampNeg x (zI σ 106 x.toNatClampNeg) (zI σ 509 0)) 110 x.toNatClampNeg (r_X0_write σ x.toNatClampNeg x (zI σ 106 x.toNatClampNeg) (zI σ 509 0))) 109 x.toNatClampNeg ((zI (zpI (f_X0_write σ x.toNatClampNeg x (zI σ 106 x.toNatClampNeg) (zI σ 509 0)) 110 x.toNatClampNeg (r_X0_write σ x.toNatClampNeg x (zI σ 106 x.toNatClampNeg) (zI σ 509 0))) 109 x.toNatClampNeg) + 1)) 111 x.toNatClampNeg ((zI (zpI (zpI (f_X0_write σ x.toNatClampNeg x (zI σ 106 x.toNatClampNeg) (zI σ 509 0)) 110 x.toNatClampNeg (r_X0_write σ x.toNatClampNeg x (zI σ 106 x.toNatClampNeg) (zI σ 509 0))) 109 x.toNatClampNeg ((zI (zpI (f_X0_write σ x.toNatClampNeg x (zI σ 106 x.toNatClampNeg) (zI σ 509 0)) 110 x.toNatClampNeg (r_X0_write σ x.toNatClampNeg x (zI σ 106 x.toNatClampNeg) (zI σ 509 0))) 109 x.toNatClampNeg) + 1)) 111 x.toNatClampNeg) ||| (1 <<< ((zI (zpI (zpI (f_X0_write σ x.toNatClampNeg x (zI σ 106 x.toNatClampNeg) (zI σ 509 0)) 110 x.toNatClampNeg (r_X0_write σ x.toNatClampNeg x (zI σ 106 x.toNatClampNeg) (zI σ 509 0))) 109 x.toNatClampNeg ((zI (zpI (f_X0_write σ x.toNatClampNeg x (zI σ 106 x.toNatClampNeg) (zI σ 509 0)) 110 x.toNatClampNeg (r_X0_write σ x.toNatClampNeg x (zI σ 106 x.toNatClampNeg) (zI σ 509 0))) 109 x.toNatClampNeg) + 1)) 106 x.toNatClampNeg) &&& 31)))) (r_X0_write σ x.toNatClampNeg x (zI σ 106 x.toNatClampNeg) (zI σ 509 0)) (zhas_in (by repeat (first | exact zbd_wr hc | refine zbd_pI (by decide) ?_)) (by decide) hhas)) zmX0_handsOf (by decide) m_428 (zrecv hK (hW 5 0 rfl (by decide)) rfl) ⟨Nat.le_of_ble_eq_true rfl, Nat.le_of_ble_eq_true rfl⟩ ⟨Nat.zero_le _, Nat.zero_le _⟩ rfl hl.1 rfl (Nat.le_of_ble_eq_true rfl) dX5_endPacking_79 ?_
    refine lv_lor hx hb dX5_endPacking_82 ?_
    refine zp1_12 X hK hW hj hA hS (zvin h1) m_125 dX5_endPacking_83 (fun H locs hW hS => ?_)
    refine lv_aload_n hx hb dX5_endPacking_86 rfl (lv_at hl 2 rfl) ?_
    refine lv_aload_n hx hb dX5_endPacking_87 rfl (lv_at hl 1 rfl) ?_
    refine zcallMV (As := [.ref (ad 11 x.toNatClampNeg)]) (rest := []) X hml hK hW (ctX5_takeOffHook l D cy ad (zpL (zpI (zpI (zpI (f_X0_write σ x.toNatClampNeg x (zI σ 106 x.toNatClampNeg) (zI σ 509 0)) 110 x.toNatClampNeg (r_X0_write σ x.toNatClampNeg x (zI σ 106 x.toNatClampNeg) (zI σ 509 0))) 109 x.toNatClampNeg ((zI (zpI (f_X0_write σ x.toNatClampNeg x (zI σ 106 x.toNatClampNeg) (zI σ 509 0)) 110 x.toNatClampNeg (r_X0_write σ x.toNatClampNeg x (zI σ 106 x.toNatClampNeg) (zI σ 509 0))) 109 x.toNatClampNeg) + 1)) 111 x.toNatClampNeg ((zI (zpI (zpI (f_X0_write σ x.toNatClampNeg x (zI σ 106 x.toNatClampNeg) (zI σ 509 0)) 110 x.toNatClampNeg (r_X0_write σ x.toNatClampNeg x (zI σ 106 x.toNatClampNeg) (zI σ 509 0))) 109 x.toNatClampNeg ((zI (zpI (f_X0_write σ x.toNatClampNeg x (zI σ 106 x.toNatClampNeg) (zI σ 509 0)) 110 x.toNatClampNeg (r_X0_write σ x.toNatClampNeg x (zI σ 106 x.toNatClampNeg) (zI σ 509 0))) 109 x.toNatClampNeg) + 1)) 111 x.toNatClampNeg) ||| (1 <<< ((zI (zpI (zpI (f_X0_write σ x.toNatClampNeg x (zI σ 106 x.toNatClampNeg) (zI σ 509 0)) 110 x.toNatClampNeg (r_X0_write σ x.toNatClampNeg x (zI σ 106 x.toNatClampNeg) (zI σ 509 0))) 109 x.toNatClampNeg ((zI (zpI (f_X0_write σ x.toNatClampNeg x (zI σ 106 x.toNatClampNeg) (zI σ 509 0)) 110 x.toNatClampNeg (r_X0_write σ x.toNatClampNeg x (zI σ 106 x.toNatClampNeg) (zI σ 509 0))) 109 x.toNatClampNeg) + 1)) 106 x.toNatClampNeg) &&& 31)))) 112 x.toNatClampNeg ((zL (zpI (zpI (zpI (f_X0_write σ x.toNatClampNeg x (zI σ 106 x.toNatClampNeg) (zI σ 509 0)) 110 x.toNatClampNeg (r_X0_write σ x.toNatClampNeg x (zI σ 106 x.toNatClampNeg) (zI σ 509 0))) 109 x.toNatClampNeg ((zI (zpI (f_X0_write σ x.toNatClampNeg x (zI σ 106 x.toNatClampNeg) (zI σ 509 0)) 110 x.toNatClampNeg (r_X0_write σ x.toNatClampNeg x (zI σ 106 x.toNatClampNeg) (zI σ 509 0))) 109 x.toNatClampNeg) + 1)) 111 x.toNatClampNeg ((zI (zpI (zpI (f_X0_write σ x.toNatClampNeg x (zI σ 106 x.toNatClampNeg) (zI σ 509 0)) 110 x.toNatClampNeg (r_X0_write σ x.toNatClampNeg x (zI σ 106 x.toNatClampNeg) (zI σ 509 0))) 109 x.toNatClampNeg ((zI (zpI (f_X0_write σ x.toNatClampNeg x (zI σ 106 x.toNatClampNeg) (zI σ 509 0)) 110 x.toNatClampNeg (r_X0_write σ x.toNatClampNeg x (zI σ 106 x.toNatClampNeg) (zI σ 509 0))) 109 x.toNatClampNeg) + 1)) 111 x.toNatClampNeg) ||| (1 <<< ((zI (zpI (zpI (f_X0_write σ x.toNatClampNeg x (zI σ 106 x.toNatClampNeg) (zI σ 509 0)) 110 x.toNatClampNeg (r_X0_write σ x.toNatClampNeg x (zI σ 106 x.toNatClampNeg) (zI σ 509 0))) 109 x.toNatClampNeg ((zI (zpI (f_X0_write σ x.toNatClampNeg x (zI σ 106 x.toNatClampNeg) (zI σ 509 0)) 110 x.toNatClampNeg (r_X0_write σ x.toNatClampNeg x (zI σ 106 x.toNatClampNeg) (zI σ 509 0))) 109 x.toNatClampNeg) + 1)) 106 x.toNatClampNeg) &&& 31)))) 112 x.toNatClampNeg) ||| (k_hands (zpI (zpI (zpI (f_X0_write σ x.toNatClampNeg x (zI σ 106 x.toNatClampNeg) (zI σ 509 0)) 110 x.toNatClampNeg (r_X0_write σ x.toNatClampNeg x (zI σ 106 x.toNatClampNeg) (zI σ 509 0))) 109 x.toNatClampNeg ((zI (zpI (f_X0_write σ x.toNatClampNeg x (zI σ 106 x.toNatClampNeg) (zI σ 509 0)) 110 x.toNatClampNeg (r_X0_write σ x.toNatClampNeg x (zI σ 106 x.toNatClampNeg) (zI σ 509 0))) 109 x.toNatClampNeg) + 1)) 111 x.toNatClampNeg ((zI (zpI (zpI (f_X0_write σ x.toNatClampNeg x (zI σ 106 x.toNatClampNeg) (zI σ 509 0)) 110 x.toNatClampNeg (r_X0_write σ x.toNatClampNeg x (zI σ 106 x.toNatClampNeg) (zI σ 509 0))) 109 x.toNatClampNeg ((zI (zpI (f_X0_write σ x.toNatClampNeg x (zI σ 106 x.toNatClampNeg) (zI σ 509 0)) 110 x.toNatClampNeg (r_X0_write σ x.toNatClampNeg x (zI σ 106 x.toNatClampNeg) (zI σ 509 0))) 109 x.toNatClampNeg) + 1)) 111 x.toNatClampNeg) ||| (1 <<< ((zI (zpI (zpI (f_X0_write σ x.toNatClampNeg x (zI σ 106 x.toNatClampNeg) (zI σ 509 0)) 110 x.toNatClampNeg (r_X0_write σ x.toNatClampNeg x (zI σ 106 x.toNatClampNeg) (zI σ 509 0))) 109 x.toNatClampNeg ((zI (zpI (f_X0_write σ x.toNatClampNeg x (zI σ 106 x.toNatClampNeg) (zI σ 509 0)) 110 x.toNatClampNeg (r_X0_write σ x.toNatClampNeg x (zI σ 106 x.toNatClampNeg) (zI σ 509 0))) 109 x.toNatClampNeg) + 1)) 106 x.toNatClampNeg) &&& 31)))) (r_X0_write σ x.toNatClampNeg x (zI σ 106 x.toNatClampNeg) (zI σ 509 0)).toNatClampNeg))) hj x.toNatClampNeg (zvin h1)) zmX5_takeOffHook (by decide) m_510 (zrecv hK (hW 0 0 rfl (by decide)) rfl) ⟨Nat.le_of_ble_eq_true rfl, Nat.le_of_ble_eq_true rfl⟩ ⟨Nat.zero_le _, Nat.zero_le _⟩ rfl hl.1 rfl (Nat.le_of_ble_eq_true rfl) dX5_endPacking_88 hS hA (fun H locs hW hsz hfr hS => ?_)
    refine lv_pop hx hb dX5_endPacking_91 rfl ?_
    refine lv_aload_n hx hb dX5_endPacking_92 rfl (lv_at hl 1 rfl) ?_
    refine lv_bipush (v := 107) hx hb dX5_endPacking_93 (by decide) ?_
    refine zp1_5 X hK hW hj hA hS (zvin h1) rfl rfl m_107 dX5_endPacking_95 (fun H locs hW hS => ?_)
    exact zm_v hx hb hr hlocks (by rw [f_X5_endPacking, if_neg (by simp [b1])]; exact hW) hS dX5_endPacking_98
def f_X5_doStep (σ : zS) (x : Int32) (y : Int32) : zS := if ¬ (zI (zpI (zpA σ 12 x.toNatClampNeg ((zI σ 107 x.toNatClampNeg).toNatClampNeg) y) 107 x.toNatClampNeg ((zI (zpA σ 12 x.toNatClampNeg ((zI σ 107 x.toNatClampNeg).toNatClampNeg) y) 107 x.toNatClampNeg) + 1)) 107 x.toNatClampNeg) = 5 then (zpI (zpA σ 12 x.toNatClampNeg ((zI σ 107 x.toNatClampNeg).toNatClampNeg) y) 107 x.toNatClampNeg ((zI (zpA σ 12 x.toNatClampNeg ((zI σ 107 x.toNatClampNeg).toNatClampNeg) y) 107 x.toNatClampNeg) + 1)) else (f_X5_endPacking (zpI (zpA σ 12 x.toNatClampNeg ((zI σ 107 x.toNatClampNeg).toNatClampNeg) y) 107 x.toNatClampNeg ((zI (zpA σ 12 x.toNatClampNeg ((zI σ 107 x.toNatClampNeg).toNatClampNeg) y) 107 x.toNatClampNeg) + 1)) x)
def r_X5_doStep (σ : zS) (x : Int32) (y : Int32) : Int32 := if ¬ (zI (zpI (zpA σ 12 x.toNatClampNeg ((zI σ 107 x.toNatClampNeg).toNatClampNeg) y) 107 x.toNatClampNeg ((zI (zpA σ 12 x.toNatClampNeg ((zI σ 107 x.toNatClampNeg).toNatClampNeg) y) 107 x.toNatClampNeg) + 1)) 107 x.toNatClampNeg) = 5 then zI (zpI (zpA σ 12 x.toNatClampNeg ((zI σ 107 x.toNatClampNeg).toNatClampNeg) y) 107 x.toNatClampNeg ((zI (zpA σ 12 x.toNatClampNeg ((zI σ 107 x.toNatClampNeg).toNatClampNeg) y) 107 x.toNatClampNeg) + 1)) 107 x.toNatClampNeg else zI (zpI (zpA σ 12 x.toNatClampNeg ((zI σ 107 x.toNatClampNeg).toNatClampNeg) y) 107 x.toNatClampNeg ((zI (zpA σ 12 x.toNatClampNeg ((zI σ 107 x.toNatClampNeg).toNatClampNeg) y) 107 x.toNatClampNeg) + 1)) 107 x.toNatClampNeg
theorem zmX5_doStep : zmV yX5_doStep RX5 cX5_doStep 5 (some .int) 2 := ⟨m_500, s_9, m_2, m_501, rfl, by decide, by decide, by decide +kernel⟩
set_option maxRecDepth 100000 in
set_option maxHeartbeats 4000000 in
theorem ctX5_doStep (l : Launch) (D : va_G) (cy : Nat → ClassId) (ad : Nat → Nat → Nat) (σ : zS) (hj : zinj ad zsL) (x : Int32) (y : Int32) (h1 : vp_in x 24) (h2 : vp_in (zI σ 107 x.toNatClampNeg) 5) (hc : zbd σ 0 86) : Met l yX5_doStep (zw yX5_doStep cX5_doStep 5 (some .int)) (zrm 2) (va_Pc [.ref (ad 0 0), .int x, .int y] (zB D cy (zW D cy ad zsL σ))) (zqM (some (.int (r_X5_doStep σ x y))) (zW D cy ad zsL (f_X5_doStep σ x y)) (zrg ad zsL)) 0 0 (zrg ad zsL) := by
  refine zmet (by decide) rfl (Nat.le_of_ble_eq_true rfl) rfl (fun p e s m below meth c ls X hml hr hlocks hv hl => ?_)
  obtain ⟨hK, hW⟩ := hv
  obtain ⟨hx, hb, -, -⟩ := id X
  have hl : lv_has ls 5 [(0, .ref (ad 0 0)), (1, .int x), (2, .int y)] := hl
  have hS : va_S (zrg ad zsL) s.heap s.heap [] := va_S.rf
  generalize hAe : zrg ad zsL = A at hS ⊢
  have hA : ∀ q, zrg ad zsL q → A q := fun q h => by rw [← hAe]; exact h
  refine lv_aload_n hx hb dX5_doStep_0 rfl (lv_at hl 0 rfl) ?_
  refine zg5_1 X hK hW m_246 dX5_doStep_1 ?_
  refine lv_iload_n hx hb dX5_doStep_4 rfl (lv_at hl 1 rfl) ?_
  refine zr2 X hK hW h1 dX5_doStep_5 ?_
  refine lv_astore_n (lv' := [(3, .ref (ad 11 x.toNatClampNeg)), (0, .ref (ad 0 0)), (1, .int x), (2, .int y)]) hx hb dX5_doStep_6 rfl hl (by decide) rfl (fun ls hl => ?_)
  refine lv_aload_n hx hb dX5_doStep_7 rfl (lv_at hl 0 rfl) ?_
  refine zg1_8 X hK hW (zvin h1) m_116 dX5_doStep_8 ?_
  refine lv_aload_n hx hb dX5_doStep_11 rfl (lv_at hl 0 rfl) ?_
  refine zg1_7 X hK hW (zvin h1) m_113 dX5_doStep_12 ?_
  refine lv_iload_n hx hb dX5_doStep_15 rfl (lv_at hl 3 rfl) ?_
  refine zs12 X hK hW hj hA hS (zvin h1) h2 dX5_doStep_16 (fun H locs hW hS => ?_)
  refine lv_aload_n hx hb dX5_doStep_17 rfl (lv_at hl 0 rfl) ?_
  refine lv_dup hx hb dX5_doStep_18 rfl ?_
  refine zg1_7 X hK hW (zvin h1) m_113 dX5_doStep_19 ?_
  refine lv_iconst (v := 1) hx hb dX5_doStep_22 (by decide) ?_
  refine lv_iadd hx hb dX5_doStep_23 ?_
  refine zp1_7 X hK hW hj hA hS (zvin h1) m_113 dX5_doStep_24 (fun H locs hW hS => ?_)
  refine lv_aload_n hx hb dX5_doStep_27 rfl (lv_at hl 0 rfl) ?_
  refine zg1_7 X hK hW (zvin h1) m_113 dX5_doStep_28 ?_
  refine lv_istore (lv' := [(4, .int (zI (zpI (zpA σ 12 x.toNatClampNeg ((zI σ 107 x.toNatClampNeg).toNatClampNeg) y) 107 x.toNatClampNeg ((zI (zpA σ 12 x.toNatClampNeg ((zI σ 107 x.toNatClampNeg).toNatClampNeg) y) 107 x.toNatClampNeg) + 1)) 107 x.toNatClampNeg)), (3, .ref (ad 11 x.toNatClampNeg)), (0, .ref (ad 0 0)), (1, .int x), (2, .int y)]) hx hb dX5_doStep_31 hl (by decide) rfl (fun ls hl => ?_)
  refine lv_iload hx hb dX5_doStep_33 (lv_at hl 0 rfl) ?_
  refine lv_iconst (v := 5) hx hb dX5_doStep_35 (by decide) ?_
  refine lv_icmp_ne (tgt := 44) hx hb dX5_doStep_36 (by decide) (fun b1 => ?_) (fun b1 => ?_)
  · refine lv_iload hx hb dX5_doStep_44 (lv_at hl 0 rfl) ?_
    exact zm_i hx hb hr hlocks (by rw [r_X5_doStep, if_pos b1]) (by rw [f_X5_doStep, if_pos b1]; exact hW) hS dX5_doStep_46
  · refine lv_aload_n hx hb dX5_doStep_39 rfl (lv_at hl 2 rfl) ?_
    refine lv_iload_n hx hb dX5_doStep_40 rfl (lv_at hl 3 rfl) ?_
    refine zcallMV (As := [.int x]) (rest := []) X hml hK hW (ctX5_endPacking l D cy ad (zpI (zpA σ 12 x.toNatClampNeg ((zI σ 107 x.toNatClampNeg).toNatClampNeg) y) 107 x.toNatClampNeg ((zI (zpA σ 12 x.toNatClampNeg ((zI σ 107 x.toNatClampNeg).toNatClampNeg) y) 107 x.toNatClampNeg) + 1)) hj x h1 hc) zmX5_endPacking (by decide) m_502 (zrecv hK (hW 0 0 rfl (by decide)) rfl) ⟨Nat.le_of_ble_eq_true rfl, Nat.le_of_ble_eq_true rfl⟩ ⟨Nat.zero_le _, Nat.zero_le _⟩ rfl hl.1 rfl (Nat.le_of_ble_eq_true rfl) dX5_doStep_41 hS hA (fun H locs hW hsz hfr hS => ?_)
    refine lv_iload hx hb dX5_doStep_44 (lv_at hl 0 rfl) ?_
    exact zm_i hx hb hr hlocks (by rw [r_X5_doStep, if_neg (not_not_intro b1)]) (by rw [f_X5_doStep, if_neg (not_not_intro b1)]; exact hW) hS dX5_doStep_46
def f_X5_beginLoad (σ : zS) : zS := (zpI (f_X4_begin σ ((zI σ 507 0).toNatClampNeg)) 507 0 ((zI (f_X4_begin σ ((zI σ 507 0).toNatClampNeg)) 507 0) + 1))
def r_X5_beginLoad (σ : zS) : Int32 := (zI (zpI (f_X4_begin σ ((zI σ 507 0).toNatClampNeg)) 507 0 ((zI (f_X4_begin σ ((zI σ 507 0).toNatClampNeg)) 507 0) + 1)) 507 0) - 1
theorem zmX5_beginLoad : zmV yX5_beginLoad RX5 cX5_beginLoad 1 (some .int) 0 := ⟨m_516, s_12, m_2, m_517, rfl, by decide, by decide, by decide +kernel⟩
set_option maxRecDepth 100000 in
set_option maxHeartbeats 4000000 in
theorem ctX5_beginLoad (l : Launch) (D : va_G) (cy : Nat → ClassId) (ad : Nat → Nat → Nat) (σ : zS) (hj : zinj ad zsL) (h1 : vp_in (zI σ 507 0) 30) : Met l yX5_beginLoad (zw yX5_beginLoad cX5_beginLoad 1 (some .int)) (zrm 1) (va_Pc [.ref (ad 0 0)] (zB D cy (zW D cy ad zsL σ))) (zqM (some (.int (r_X5_beginLoad σ))) (zW D cy ad zsL (f_X5_beginLoad σ)) (zrg ad zsL)) 0 0 (zrg ad zsL) := by
  refine zmet (by decide) rfl (Nat.le_of_ble_eq_true rfl) rfl (fun p e s m below meth c ls X hml hr hlocks hv hl => ?_)
  obtain ⟨hK, hW⟩ := hv
  obtain ⟨hx, hb, -, -⟩ := id X
  have hl : lv_has ls 1 [(0, .ref (ad 0 0))] := hl
  have hS : va_S (zrg ad zsL) s.heap s.heap [] := va_S.rf
  generalize hAe : zrg ad zsL = A at hS ⊢
  have hA : ∀ q, zrg ad zsL q → A q := fun q h => by rw [← hAe]; exact h
  refine lv_aload_n hx hb dX5_beginLoad_0 rfl (lv_at hl 0 rfl) ?_
  refine zg5_2 X hK hW m_249 dX5_beginLoad_1 ?_
  refine lv_aload_n hx hb dX5_beginLoad_4 rfl (lv_at hl 0 rfl) ?_
  refine zg5_7 X hK hW m_260 dX5_beginLoad_5 ?_
  refine zr3 X hK hW h1 dX5_beginLoad_8 ?_
  refine zcallMV (As := []) (rest := []) X hml hK hW (ctX4_begin l D cy ad σ hj ((zI σ 507 0).toNatClampNeg) (zvin h1)) zmX4_begin (by decide) m_518 (zrecv hK (hW 13 ((zI σ 507 0).toNatClampNeg) rfl (zvin h1)) rfl) ⟨Nat.le_of_ble_eq_true rfl, Nat.le_of_ble_eq_true rfl⟩ ⟨Nat.zero_le _, Nat.zero_le _⟩ rfl hl.1 rfl (Nat.le_of_ble_eq_true rfl) dX5_beginLoad_9 hS hA (fun H locs hW hsz hfr hS => ?_)
  refine lv_aload_n hx hb dX5_beginLoad_12 rfl (lv_at hl 0 rfl) ?_
  refine lv_dup hx hb dX5_beginLoad_13 rfl ?_
  refine zg5_7 X hK hW m_260 dX5_beginLoad_14 ?_
  refine lv_iconst (v := 1) hx hb dX5_beginLoad_17 (by decide) ?_
  refine lv_iadd hx hb dX5_beginLoad_18 ?_
  refine zp5_7 X hK hW hj hA hS m_260 dX5_beginLoad_19 (fun H locs hW hS => ?_)
  refine lv_aload_n hx hb dX5_beginLoad_22 rfl (lv_at hl 0 rfl) ?_
  refine zg5_7 X hK hW m_260 dX5_beginLoad_23 ?_
  refine lv_iconst (v := 1) hx hb dX5_beginLoad_26 (by decide) ?_
  refine lv_isub hx hb dX5_beginLoad_27 ?_
  exact zm_i hx hb hr hlocks (by rw [r_X5_beginLoad]) (by rw [f_X5_beginLoad]; exact hW) hS dX5_beginLoad_28
def f_X5_putAboard (σ : zS) (o : Nat) (x : Int32) (y : Int32) : zS := (zpI (zpI (zpI (zpA (zpA σ 14 o ((zI σ 400 o).toNatClampNeg) x) 15 o ((zI (zpA σ 14 o ((zI σ 400 o).toNatClampNeg) x) 400 o).toNatClampNeg) y) 400 o ((zI (zpA (zpA σ 14 o ((zI σ 400 o).toNatClampNeg) x) 15 o ((zI (zpA σ 14 o ((zI σ 400 o).toNatClampNeg) x) 400 o).toNatClampNeg) y) 400 o) + 1)) 105 x.toNatClampNeg 97) 105 y.toNatClampNeg 97)
def r_X5_putAboard (σ : zS) (o : Nat) (x : Int32) (y : Int32) : Int32 := zI (zpI (zpI (zpI (zpA (zpA σ 14 o ((zI σ 400 o).toNatClampNeg) x) 15 o ((zI (zpA σ 14 o ((zI σ 400 o).toNatClampNeg) x) 400 o).toNatClampNeg) y) 400 o ((zI (zpA (zpA σ 14 o ((zI σ 400 o).toNatClampNeg) x) 15 o ((zI (zpA σ 14 o ((zI σ 400 o).toNatClampNeg) x) 400 o).toNatClampNeg) y) 400 o) + 1)) 105 x.toNatClampNeg 97) 105 y.toNatClampNeg 97) 400 o
theorem zmX5_putAboard : zmV yX5_putAboard RX5 cX5_putAboard 4 (some .int) 3 := ⟨m_524, s_13, m_2, m_525, rfl, by decide, by decide, by decide +kernel⟩
set_option maxRecDepth 100000 in
set_option maxHeartbeats 4000000 in
theorem ctX5_putAboard (l : Launch) (D : va_G) (cy : Nat → ClassId) (ad : Nat → Nat → Nat) (σ : zS) (hj : zinj ad zsL) (o : Nat) (hi_o : o < 30) (x : Int32) (y : Int32) (h1 : vp_in (zI σ 400 o) 6) (h2 : vp_in x 24) (h3 : vp_in y 24) : Met l yX5_putAboard (zw yX5_putAboard cX5_putAboard 4 (some .int)) (zrm 0) (va_Pc [.ref (ad 0 0), .ref (ad 13 o), .int x, .int y] (zB D cy (zW D cy ad zsL σ))) (zqM (some (.int (r_X5_putAboard σ o x y))) (zW D cy ad zsL (f_X5_putAboard σ o x y)) (zrg ad zsL)) 0 0 (zrg ad zsL) := by
  refine zmet (by decide) rfl (Nat.le_of_ble_eq_true rfl) rfl (fun p e s m below meth c ls X hml hr hlocks hv hl => ?_)
  obtain ⟨hK, hW⟩ := hv
  obtain ⟨hx, hb, -, -⟩ := id X
  have hl : lv_has ls 4 [(0, .ref (ad 0 0)), (1, .ref (ad 13 o)), (2, .int x), (3, .int y)] := hl
  have hS : va_S (zrg ad zsL) s.heap s.heap [] := va_S.rf
  generalize hAe : zrg ad zsL = A at hS ⊢
  have hA : ∀ q, zrg ad zsL q → A q := fun q h => by rw [← hAe]; exact h
  refine lv_aload_n hx hb dX5_putAboard_0 rfl (lv_at hl 1 rfl) ?_
  refine zg4_2 X hK hW hi_o m_193 dX5_putAboard_1 ?_
  refine lv_aload_n hx hb dX5_putAboard_4 rfl (lv_at hl 1 rfl) ?_
  refine zg4_0 X hK hW hi_o m_187 dX5_putAboard_5 ?_
  refine lv_iload_n hx hb dX5_putAboard_8 rfl (lv_at hl 2 rfl) ?_
  refine zs14 X hK hW hj hA hS hi_o h1 dX5_putAboard_9 (fun H locs hW hS => ?_)
  refine lv_aload_n hx hb dX5_putAboard_10 rfl (lv_at hl 1 rfl) ?_
  refine zg4_3 X hK hW hi_o m_196 dX5_putAboard_11 ?_
  refine lv_aload_n hx hb dX5_putAboard_14 rfl (lv_at hl 1 rfl) ?_
  refine zg4_0 X hK hW hi_o m_187 dX5_putAboard_15 ?_
  refine lv_iload_n hx hb dX5_putAboard_18 rfl (lv_at hl 3 rfl) ?_
  refine zs15 X hK hW hj hA hS hi_o h1 dX5_putAboard_19 (fun H locs hW hS => ?_)
  refine lv_aload_n hx hb dX5_putAboard_20 rfl (lv_at hl 1 rfl) ?_
  refine lv_dup hx hb dX5_putAboard_21 rfl ?_
  refine zg4_0 X hK hW hi_o m_187 dX5_putAboard_22 ?_
  refine lv_iconst (v := 1) hx hb dX5_putAboard_25 (by decide) ?_
  refine lv_iadd hx hb dX5_putAboard_26 ?_
  refine zp4_0 X hK hW hj hA hS hi_o m_187 dX5_putAboard_27 (fun H locs hW hS => ?_)
  refine lv_aload_n hx hb dX5_putAboard_30 rfl (lv_at hl 0 rfl) ?_
  refine zg5_1 X hK hW m_246 dX5_putAboard_31 ?_
  refine lv_iload_n hx hb dX5_putAboard_34 rfl (lv_at hl 2 rfl) ?_
  refine zr2 X hK hW h2 dX5_putAboard_35 ?_
  refine lv_bipush (v := 97) hx hb dX5_putAboard_36 (by decide) ?_
  refine zp1_5 X hK hW hj hA hS (zvin h2) rfl rfl m_107 dX5_putAboard_38 (fun H locs hW hS => ?_)
  refine lv_aload_n hx hb dX5_putAboard_41 rfl (lv_at hl 0 rfl) ?_
  refine zg5_1 X hK hW m_246 dX5_putAboard_42 ?_
  refine lv_iload_n hx hb dX5_putAboard_45 rfl (lv_at hl 3 rfl) ?_
  refine zr2 X hK hW h3 dX5_putAboard_46 ?_
  refine lv_bipush (v := 97) hx hb dX5_putAboard_47 (by decide) ?_
  refine zp1_5 X hK hW hj hA hS (zvin h3) rfl rfl m_107 dX5_putAboard_49 (fun H locs hW hS => ?_)
  refine lv_aload_n hx hb dX5_putAboard_52 rfl (lv_at hl 1 rfl) ?_
  refine zg4_0 X hK hW hi_o m_187 dX5_putAboard_53 ?_
  exact zm_i hx hb hr hlocks (by rw [r_X5_putAboard]) (by rw [f_X5_putAboard]; exact hW) hS dX5_putAboard_56
def f_X5_noteFinding (σ : zS) (x : Int32) : zS := (zpI (f_X3_begin σ ((zI σ 508 0).toNatClampNeg) x (zI σ 110 x.toNatClampNeg) (zI σ 512 0)) 508 0 ((zI (f_X3_begin σ ((zI σ 508 0).toNatClampNeg) x (zI σ 110 x.toNatClampNeg) (zI σ 512 0)) 508 0) + 1))
def r_X5_noteFinding (σ : zS) (x : Int32) : Int32 := (zI (zpI (f_X3_begin σ ((zI σ 508 0).toNatClampNeg) x (zI σ 110 x.toNatClampNeg) (zI σ 512 0)) 508 0 ((zI (f_X3_begin σ ((zI σ 508 0).toNatClampNeg) x (zI σ 110 x.toNatClampNeg) (zI σ 512 0)) 508 0) + 1)) 508 0) - 1
theorem zmX5_noteFinding : zmV yX5_noteFinding RX5 cX5_noteFinding 2 (some .int) 1 := ⟨m_540, s_16, m_2, m_541, rfl, by decide, by decide, by decide +kernel⟩
set_option maxRecDepth 100000 in
set_option maxHeartbeats 4000000 in
theorem ctX5_noteFinding (l : Launch) (D : va_G) (cy : Nat → ClassId) (ad : Nat → Nat → Nat) (σ : zS) (hj : zinj ad zsL) (x : Int32) (h1 : vp_in x 24) (h2 : vp_in (zI σ 508 0) 12) : Met l yX5_noteFinding (zw yX5_noteFinding cX5_noteFinding 2 (some .int)) (zrm 1) (va_Pc [.ref (ad 0 0), .int x] (zB D cy (zW D cy ad zsL σ))) (zqM (some (.int (r_X5_noteFinding σ x))) (zW D cy ad zsL (f_X5_noteFinding σ x)) (zrg ad zsL)) 0 0 (zrg ad zsL) := by
  refine zmet (by decide) rfl (Nat.le_of_ble_eq_true rfl) rfl (fun p e s m below meth c ls X hml hr hlocks hv hl => ?_)
  obtain ⟨hK, hW⟩ := hv
  obtain ⟨hx, hb, -, -⟩ := id X
  have hl : lv_has ls 2 [(0, .ref (ad 0 0)), (1, .int x)] := hl
  have hS : va_S (zrg ad zsL) s.heap s.heap [] := va_S.rf
  generalize hAe : zrg ad zsL = A at hS ⊢
  have hA : ∀ q, zrg ad zsL q → A q := fun q h => by rw [← hAe]; exact h
  refine lv_aload_n hx hb dX5_noteFinding_0 rfl (lv_at hl 0 rfl) ?_
  refine zg5_3 X hK hW m_251 dX5_noteFinding_1 ?_
  refine lv_aload_n hx hb dX5_noteFinding_4 rfl (lv_at hl 0 rfl) ?_
  refine zg5_8 X hK hW m_262 dX5_noteFinding_5 ?_
  refine zr4 X hK hW h2 dX5_noteFinding_8 ?_
  refine lv_iload_n hx hb dX5_noteFinding_9 rfl (lv_at hl 1 rfl) ?_
  refine lv_aload_n hx hb dX5_noteFinding_10 rfl (lv_at hl 0 rfl) ?_
  refine zg5_1 X hK hW m_246 dX5_noteFinding_11 ?_
  refine lv_iload_n hx hb dX5_noteFinding_14 rfl (lv_at hl 1 rfl) ?_
  refine zr2 X hK hW h1 dX5_noteFinding_15 ?_
  refine zg1_10 X hK hW (zvin h1) m_121 dX5_noteFinding_16 ?_
  refine lv_aload_n hx hb dX5_noteFinding_19 rfl (lv_at hl 0 rfl) ?_
  refine zg5_12 X hK hW m_269 dX5_noteFinding_20 ?_
  refine zcallMV (As := [.int x, .int (zI σ 110 x.toNatClampNeg), .int (zI σ 512 0)]) (rest := []) X hml hK hW (ctX3_begin l D cy ad σ hj ((zI σ 508 0).toNatClampNeg) (zvin h2) x (zI σ 110 x.toNatClampNeg) (zI σ 512 0)) zmX3_begin (by decide) m_542 (zrecv hK (hW 16 ((zI σ 508 0).toNatClampNeg) rfl (zvin h2)) rfl) ⟨Nat.le_of_ble_eq_true rfl, Nat.le_of_ble_eq_true rfl⟩ ⟨Nat.zero_le _, Nat.zero_le _⟩ rfl hl.1 rfl (Nat.le_of_ble_eq_true rfl) dX5_noteFinding_23 hS hA (fun H locs hW hsz hfr hS => ?_)
  refine lv_aload_n hx hb dX5_noteFinding_26 rfl (lv_at hl 0 rfl) ?_
  refine lv_dup hx hb dX5_noteFinding_27 rfl ?_
  refine zg5_8 X hK hW m_262 dX5_noteFinding_28 ?_
  refine lv_iconst (v := 1) hx hb dX5_noteFinding_31 (by decide) ?_
  refine lv_iadd hx hb dX5_noteFinding_32 ?_
  refine zp5_8 X hK hW hj hA hS m_262 dX5_noteFinding_33 (fun H locs hW hS => ?_)
  refine lv_aload_n hx hb dX5_noteFinding_36 rfl (lv_at hl 0 rfl) ?_
  refine zg5_8 X hK hW m_262 dX5_noteFinding_37 ?_
  refine lv_iconst (v := 1) hx hb dX5_noteFinding_40 (by decide) ?_
  refine lv_isub hx hb dX5_noteFinding_41 ?_
  exact zm_i hx hb hr hlocks (by rw [r_X5_noteFinding]) (by rw [f_X5_noteFinding]; exact hW) hS dX5_noteFinding_42
def f_X5_raiseLevel (σ : zS) (f : Nat) : zS := (zpI σ 302 f ((zI σ 302 f) + 1))
def r_X5_raiseLevel (σ : zS) (f : Nat) : Int32 := zI (zpI σ 302 f ((zI σ 302 f) + 1)) 302 f
theorem zmX5_raiseLevel : zmV yX5_raiseLevel RX5 cX5_raiseLevel 2 (some .int) 1 := ⟨m_548, s_17, m_2, m_549, rfl, by decide, by decide, by decide +kernel⟩
set_option maxRecDepth 100000 in
set_option maxHeartbeats 4000000 in
theorem ctX5_raiseLevel (l : Launch) (D : va_G) (cy : Nat → ClassId) (ad : Nat → Nat → Nat) (σ : zS) (hj : zinj ad zsL) (f : Nat) (hi_f : f < 12) : Met l yX5_raiseLevel (zw yX5_raiseLevel cX5_raiseLevel 2 (some .int)) (zrm 0) (va_Pc [.ref (ad 0 0), .ref (ad 16 f)] (zB D cy (zW D cy ad zsL σ))) (zqM (some (.int (r_X5_raiseLevel σ f))) (zW D cy ad zsL (f_X5_raiseLevel σ f)) (zrg ad zsL)) 0 0 (zrg ad zsL) := by
  refine zmet (by decide) rfl (Nat.le_of_ble_eq_true rfl) rfl (fun p e s m below meth c ls X hml hr hlocks hv hl => ?_)
  obtain ⟨hK, hW⟩ := hv
  obtain ⟨hx, hb, -, -⟩ := id X
  have hl : lv_has ls 2 [(0, .ref (ad 0 0)), (1, .ref (ad 16 f))] := hl
  have hS : va_S (zrg ad zsL) s.heap s.heap [] := va_S.rf
  generalize hAe : zrg ad zsL = A at hS ⊢
  have hA : ∀ q, zrg ad zsL q → A q := fun q h => by rw [← hAe]; exact h
  refine lv_aload_n hx hb dX5_raiseLevel_0 rfl (lv_at hl 1 rfl) ?_
  refine lv_dup hx hb dX5_raiseLevel_1 rfl ?_
  refine zg3_2 X hK hW hi_f m_218 dX5_raiseLevel_2 ?_
  refine lv_iconst (v := 1) hx hb dX5_raiseLevel_5 (by decide) ?_
  refine lv_iadd hx hb dX5_raiseLevel_6 ?_
  refine zp3_2 X hK hW hj hA hS hi_f m_218 dX5_raiseLevel_7 (fun H locs hW hS => ?_)
  refine lv_aload_n hx hb dX5_raiseLevel_10 rfl (lv_at hl 1 rfl) ?_
  refine zg3_2 X hK hW hi_f m_218 dX5_raiseLevel_11 ?_
  exact zm_i hx hb hr hlocks (by rw [r_X5_raiseLevel]) (by rw [f_X5_raiseLevel]; exact hW) hS dX5_raiseLevel_14
def f_X5_noteCause (σ : zS) (f : Nat) (ch : Int32) : zS := (zpI σ 303 f ch)
def r_X5_noteCause (σ : zS) (f : Nat) (ch : Int32) : Int32 := zI σ 303 f
theorem zmX5_noteCause : zmV yX5_noteCause RX5 cX5_noteCause 4 (some .int) 2 := ⟨m_552, s_18, m_2, m_553, rfl, by decide, by decide, by decide +kernel⟩
set_option maxRecDepth 100000 in
set_option maxHeartbeats 4000000 in
theorem ctX5_noteCause (l : Launch) (D : va_G) (cy : Nat → ClassId) (ad : Nat → Nat → Nat) (σ : zS) (hj : zinj ad zsL) (f : Nat) (hi_f : f < 12) (ch : Int32) (hch : narrow .char (.int ch) = .int ch ∧ fits .char (.int ch) = true) : Met l yX5_noteCause (zw yX5_noteCause cX5_noteCause 4 (some .int)) (zrm 0) (va_Pc [.ref (ad 0 0), .ref (ad 16 f), .int ch] (zB D cy (zW D cy ad zsL σ))) (zqM (some (.int (r_X5_noteCause σ f ch))) (zW D cy ad zsL (f_X5_noteCause σ f ch)) (zrg ad zsL)) 0 0 (zrg ad zsL) := by
  refine zmet (by decide) rfl (Nat.le_of_ble_eq_true rfl) rfl (fun p e s m below meth c ls X hml hr hlocks hv hl => ?_)
  obtain ⟨hK, hW⟩ := hv
  obtain ⟨hx, hb, -, -⟩ := id X
  have hl : lv_has ls 4 [(0, .ref (ad 0 0)), (1, .ref (ad 16 f)), (2, .int ch)] := hl
  have hS : va_S (zrg ad zsL) s.heap s.heap [] := va_S.rf
  generalize hAe : zrg ad zsL = A at hS ⊢
  have hA : ∀ q, zrg ad zsL q → A q := fun q h => by rw [← hAe]; exact h
  refine lv_aload_n hx hb dX5_noteCause_0 rfl (lv_at hl 1 rfl) ?_
  refine zg3_3 X hK hW hi_f m_221 dX5_noteCause_1 ?_
  refine lv_istore_n (lv' := [(3, .int (zI σ 303 f)), (0, .ref (ad 0 0)), (1, .ref (ad 16 f)), (2, .int ch)]) hx hb dX5_noteCause_4 rfl hl (by decide) rfl (fun ls hl => ?_)
  refine lv_aload_n hx hb dX5_noteCause_5 rfl (lv_at hl 2 rfl) ?_
  refine lv_iload_n hx hb dX5_noteCause_6 rfl (lv_at hl 3 rfl) ?_
  refine zp3_3 X hK hW hj hA hS hi_f hch.1 hch.2 m_221 dX5_noteCause_7 (fun H locs hW hS => ?_)
  refine lv_iload_n hx hb dX5_noteCause_10 rfl (lv_at hl 0 rfl) ?_
  exact zm_i hx hb hr hlocks (by rw [r_X5_noteCause]) (by rw [f_X5_noteCause]; exact hW) hS dX5_noteCause_11
def f_X5_shut (σ : zS) (f : Nat) : zS := if ¬ (zI σ 304 f) = 0 then (zpI σ 304 f 1) else (zpI σ 304 f 1)
def r_X5_shut (σ : zS) (f : Nat) : Int32 := if ¬ (zI σ 304 f) = 0 then 0 else 1
theorem zmX5_shut : zmV yX5_shut RX5 cX5_shut 3 (some .int) 1 := ⟨m_556, s_19, m_2, m_557, rfl, by decide, by decide, by decide +kernel⟩
set_option maxRecDepth 100000 in
set_option maxHeartbeats 4000000 in
theorem ctX5_shut (l : Launch) (D : va_G) (cy : Nat → ClassId) (ad : Nat → Nat → Nat) (σ : zS) (hj : zinj ad zsL) (f : Nat) (hi_f : f < 12) : Met l yX5_shut (zw yX5_shut cX5_shut 3 (some .int)) (zrm 0) (va_Pc [.ref (ad 0 0), .ref (ad 16 f)] (zB D cy (zW D cy ad zsL σ))) (zqM (some (.int (r_X5_shut σ f))) (zW D cy ad zsL (f_X5_shut σ f)) (zrg ad zsL)) 0 0 (zrg ad zsL) := by
  refine zmet (by decide) rfl (Nat.le_of_ble_eq_true rfl) rfl (fun p e s m below meth c ls X hml hr hlocks hv hl => ?_)
  obtain ⟨hK, hW⟩ := hv
  obtain ⟨hx, hb, -, -⟩ := id X
  have hl : lv_has ls 3 [(0, .ref (ad 0 0)), (1, .ref (ad 16 f))] := hl
  have hS : va_S (zrg ad zsL) s.heap s.heap [] := va_S.rf
  generalize hAe : zrg ad zsL = A at hS ⊢
  have hA : ∀ q, zrg ad zsL q → A q := fun q h => by rw [← hAe]; exact h
  refine lv_aload_n hx hb dX5_shut_0 rfl (lv_at hl 1 rfl) ?_
  refine zg3_4 X hK hW hi_f m_224 dX5_shut_1 ?_
  refine lv_if_ne (tgt := 11) hx hb dX5_shut_4 (by decide) (fun b1 => ?_) (fun b1 => ?_)
  · refine lv_iconst (v := 0) hx hb dX5_shut_11 (by decide) ?_
    refine lv_istore_n (lv' := [(2, .int 0), (0, .ref (ad 0 0)), (1, .ref (ad 16 f))]) hx hb dX5_shut_12 rfl hl (by decide) rfl (fun ls hl => ?_)
    refine lv_aload_n hx hb dX5_shut_13 rfl (lv_at hl 2 rfl) ?_
    refine lv_iconst (v := 1) hx hb dX5_shut_14 (by decide) ?_
    refine zp3_4 X hK hW hj hA hS hi_f rfl rfl m_224 dX5_shut_15 (fun H locs hW hS => ?_)
    refine lv_iload_n hx hb dX5_shut_18 rfl (lv_at hl 0 rfl) ?_
    refine lv_if_eq (tgt := 26) hx hb dX5_shut_19 (by decide) (fun _ => ?_) (fun h => absurd h (by decide))
    refine lv_iconst (v := 0) hx hb dX5_shut_26 (by decide) ?_
    exact zm_i hx hb hr hlocks (by rw [r_X5_shut, if_pos b1]) (by rw [f_X5_shut, if_pos b1]; exact hW) hS dX5_shut_27
  · refine lv_iconst (v := 1) hx hb dX5_shut_7 (by decide) ?_
    refine lv_goto (tgt := 12) hx hb dX5_shut_8 (by decide) ?_
    refine lv_istore_n (lv' := [(2, .int 1), (0, .ref (ad 0 0)), (1, .ref (ad 16 f))]) hx hb dX5_shut_12 rfl hl (by decide) rfl (fun ls hl => ?_)
    refine lv_aload_n hx hb dX5_shut_13 rfl (lv_at hl 2 rfl) ?_
    refine lv_iconst (v := 1) hx hb dX5_shut_14 (by decide) ?_
    refine zp3_4 X hK hW hj hA hS hi_f rfl rfl m_224 dX5_shut_15 (fun H locs hW hS => ?_)
    refine lv_iload_n hx hb dX5_shut_18 rfl (lv_at hl 0 rfl) ?_
    refine lv_if_eq (tgt := 26) hx hb dX5_shut_19 (by decide) (fun h => absurd h (by decide)) (fun _ => ?_)
    refine lv_iconst (v := 1) hx hb dX5_shut_22 (by decide) ?_
    refine lv_goto (tgt := 27) hx hb dX5_shut_23 (by decide) ?_
    exact zm_i hx hb hr hlocks (by rw [r_X5_shut, if_neg (not_not_intro b1)]) (by rw [f_X5_shut, if_neg (not_not_intro b1)]; exact hW) hS dX5_shut_27
def f_X5_handOut (σ : zS) (u : Nat) (x : Int32) (y : Int32) : zS := (zpI (zpI (zpI σ 105 u 104) 118 u ((zI (zpI σ 105 u 104) 509 0) + x)) 119 u y)
def r_X5_handOut (σ : zS) (u : Nat) (x : Int32) (y : Int32) : Int32 := zI (zpI (zpI (zpI σ 105 u 104) 118 u ((zI (zpI σ 105 u 104) 509 0) + x)) 119 u y) 118 u
theorem zmX5_handOut : zmV yX5_handOut RX5 cX5_handOut 4 (some .int) 3 := ⟨m_576, s_23, m_2, m_577, rfl, by decide, by decide, by decide +kernel⟩
set_option maxRecDepth 100000 in
set_option maxHeartbeats 4000000 in
theorem ctX5_handOut (l : Launch) (D : va_G) (cy : Nat → ClassId) (ad : Nat → Nat → Nat) (σ : zS) (hj : zinj ad zsL) (u : Nat) (hi_u : u < 24) (x : Int32) (y : Int32) : Met l yX5_handOut (zw yX5_handOut cX5_handOut 4 (some .int)) (zrm 0) (va_Pc [.ref (ad 0 0), .ref (ad 11 u), .int x, .int y] (zB D cy (zW D cy ad zsL σ))) (zqM (some (.int (r_X5_handOut σ u x y))) (zW D cy ad zsL (f_X5_handOut σ u x y)) (zrg ad zsL)) 0 0 (zrg ad zsL) := by
  refine zmet (by decide) rfl (Nat.le_of_ble_eq_true rfl) rfl (fun p e s m below meth c ls X hml hr hlocks hv hl => ?_)
  obtain ⟨hK, hW⟩ := hv
  obtain ⟨hx, hb, -, -⟩ := id X
  have hl : lv_has ls 4 [(0, .ref (ad 0 0)), (1, .ref (ad 11 u)), (2, .int x), (3, .int y)] := hl
  have hS : va_S (zrg ad zsL) s.heap s.heap [] := va_S.rf
  generalize hAe : zrg ad zsL = A at hS ⊢
  have hA : ∀ q, zrg ad zsL q → A q := fun q h => by rw [← hAe]; exact h
  refine lv_aload_n hx hb dX5_handOut_0 rfl (lv_at hl 1 rfl) ?_
  refine lv_bipush (v := 104) hx hb dX5_handOut_1 (by decide) ?_
  refine zp1_5 X hK hW hj hA hS hi_u rfl rfl m_107 dX5_handOut_3 (fun H locs hW hS => ?_)
  refine lv_aload_n hx hb dX5_handOut_6 rfl (lv_at hl 1 rfl) ?_
  refine lv_aload_n hx hb dX5_handOut_7 rfl (lv_at hl 0 rfl) ?_
  refine zg5_9 X hK hW m_264 dX5_handOut_8 ?_
  refine lv_iload_n hx hb dX5_handOut_11 rfl (lv_at hl 2 rfl) ?_
  refine lv_iadd hx hb dX5_handOut_12 ?_
  refine zp1_18 X hK hW hj hA hS hi_u m_136 dX5_handOut_13 (fun H locs hW hS => ?_)
  refine lv_aload_n hx hb dX5_handOut_16 rfl (lv_at hl 1 rfl) ?_
  refine lv_iload_n hx hb dX5_handOut_17 rfl (lv_at hl 3 rfl) ?_
  refine zp1_19 X hK hW hj hA hS hi_u m_138 dX5_handOut_18 (fun H locs hW hS => ?_)
  refine lv_aload_n hx hb dX5_handOut_21 rfl (lv_at hl 1 rfl) ?_
  refine zg1_18 X hK hW hi_u m_136 dX5_handOut_22 ?_
  exact zm_i hx hb hr hlocks (by rw [r_X5_handOut]) (by rw [f_X5_handOut]; exact hW) hS dX5_handOut_25
