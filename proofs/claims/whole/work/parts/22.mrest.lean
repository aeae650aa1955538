theorem zm_l {p : Program} {l : Launch} {e : Env} {R : Room} {s : State} {m : MethodId} {args : Array Value} {below : List Frame} {meth : Method} {c : Code} {H : Heap} {locs : List Loc} {cc : ByteArray} {pc : Nat} {ls : Array Slot} {A : Nat → Prop} {G' : Heap → Prop} {v w : Int64} (hx : p.tables.exec = Jvm.exec) (hb : c.code = cc) (hr : meth.sig.returnType = some .long) (hlocks : meth.locks = false) (h : w = v) (hG : G' H) (hS : va_S A s.heap H locs) (hd : decode cc pc = .ok (.lreturn, 1)) : W p l e R s m args below meth c H locs 0 0 (MQ below (zqM (some (.long v)) G' A) args s 0 0 A) (F0 m pc ls [.long w]) := by
  subst h
  exact W.lret (cc := cc) hx hb hr (fun t ht hW => ⟨rfl, by rw [ht]; exact hG, hS.F ht⟩) hS.2.2 hd hlocks
theorem zmX10_thrown : zmV yX10_thrown RX10 cX10_thrown 1 (some .int) 0 := ⟨m_1252, m_1253, m_9, m_1254, rfl, by decide, by decide, by decide +kernel⟩
set_option maxRecDepth 100000 in
set_option maxHeartbeats 4000000 in
theorem ctX10_thrown (l : Launch) (D : va_G) (cy : Nat → ClassId) (ad : Nat → Nat → Nat) (μ : zS) : Met l yX10_thrown (zw yX10_thrown cX10_thrown 1 (some .int)) (zrm 0) (va_Pc [.ref (ad 30 0)] (zB D cy (zW D cy ad zsM μ))) (zqR (.int (zI μ 838 0))) 0 0 (fun _ => False) := by
  refine zmet (by decide) rfl (Nat.le_of_ble_eq_true rfl) rfl (fun p e s m below meth c ls X hml hr hlocks hv hl => ?_)
  obtain ⟨hK, hW⟩ := hv
  obtain ⟨hx, hb, -, -⟩ := id X
  have hl : lv_has ls 1 [(0, .ref (ad 30 0))] := hl
  refine lv_aload_n hx hb dX10_thrown_0 rfl (lv_at hl 0 rfl) ?_
  refine zg8_38 X hK hW m_1144 dX10_thrown_1 ?_
  exact ze_i hx hb hr hlocks rfl dX10_thrown_4
def f_X10_kept (μ : zS) : zS := (zpI μ 838 0 0)
def r_X10_kept (μ : zS) : Int64 := zL (zpI μ 838 0 0) 847 0
theorem zmX10_kept : zmV yX10_kept RX10 cX10_kept 1 (some .long) 0 := ⟨m_1472, m_1473, m_9, m_1474, rfl, by decide, by decide, by decide +kernel⟩
set_option maxRecDepth 100000 in
set_option maxHeartbeats 4000000 in
theorem ctX10_kept (l : Launch) (D : va_G) (cy : Nat → ClassId) (ad : Nat → Nat → Nat) (μ : zS) (hj : zinj ad zsM) : Met l yX10_kept (zw yX10_kept cX10_kept 1 (some .long)) (zrm 0) (va_Pc [.ref (ad 30 0)] (zB D cy (zW D cy ad zsM μ))) (zqM (some (.long (r_X10_kept μ))) (zW D cy ad zsM (f_X10_kept μ)) (zrg ad zsM)) 0 0 (zrg ad zsM) := by
  refine zmet (by decide) rfl (Nat.le_of_ble_eq_true rfl) rfl (fun p e s m below meth c ls X hml hr hlocks hv hl => ?_)
  obtain ⟨hK, hW⟩ := hv
  obtain ⟨hx, hb, -, -⟩ := id X
  have hl : lv_has ls 1 [(0, .ref (ad 30 0))] := hl
  have hS : va_S (zrg ad zsM) s.heap s.heap [] := va_S.rf
  generalize hAe : zrg ad zsM = A at hS ⊢
  have hA : ∀ q, zrg ad zsM q → A q := fun q h => by rw [← hAe]; exact h
  refine lv_aload_n hx hb dX10_kept_0 rfl (lv_at hl 0 rfl) ?_
  refine lv_iconst (v := 0) hx hb dX10_kept_1 (by decide) ?_
  refine zp8_38 X hK hW hj hA hS m_1144 dX10_kept_2 (fun H locs hW hS => ?_)
  refine lv_aload_n hx hb dX10_kept_5 rfl (lv_at hl 0 rfl) ?_
  refine zg8_47 X hK hW m_1153 dX10_kept_6 ?_
  exact zm_l hx hb hr hlocks (by rw [r_X10_kept]) (by rw [f_X10_kept]; exact hW) hS dX10_kept_9
def f_X10_isSound (μ : zS) : zS := (f_X10_tells μ true)
def r_X10_isSound (μ : zS) : Bool := r_X10_tells μ true
theorem zmX10_isSound : zmV yX10_isSound RX10 cX10_isSound 1 (some .boolean) 0 := ⟨m_1484, m_1485, m_9, m_1486, rfl, by decide, by decide, by decide +kernel⟩
set_option maxRecDepth 100000 in
set_option maxHeartbeats 4000000 in
theorem ctX10_isSound (l : Launch) (D : va_G) (cy : Nat → ClassId) (ad : Nat → Nat → Nat) (μ : zS) (hj : zinj ad zsM) : Met l yX10_isSound (zw yX10_isSound cX10_isSound 1 (some .boolean)) (zrm 1) (va_Pc [.ref (ad 30 0)] (zB D cy (zW D cy ad zsM μ))) (zqM (some (.int (bI (r_X10_isSound μ)))) (zW D cy ad zsM (f_X10_isSound μ)) (zrg ad zsM)) 0 0 (zrg ad zsM) := by
  refine zmet (by decide) rfl (Nat.le_of_ble_eq_true rfl) rfl (fun p e s m below meth c ls X hml hr hlocks hv hl => ?_)
  obtain ⟨hK, hW⟩ := hv
  obtain ⟨hx, hb, -, -⟩ := id X
  have hl : lv_has ls 1 [(0, .ref (ad 30 0))] := hl
  have hS : va_S (zrg ad zsM) s.heap s.heap [] := va_S.rf
  generalize hAe : zrg ad zsM = A at hS ⊢
  have hA : ∀ q, zrg ad zsM q → A q := fun q h => by rw [← hAe]; exact h
  refine lv_aload_n hx hb dX10_isSound_0 rfl (lv_at hl 0 rfl) ?_
  refine lv_iconst (v := 1) hx hb dX10_isSound_1 (by decide) ?_
  refine zcallMV (As := [.int (bI true)]) (rest := []) X hml hK hW (ctX10_tells l D cy ad μ hj true) zmX10_tells (by decide) m_1350 (zrecv hK (hW 30 0 rfl (by decide)) rfl) ⟨Nat.le_of_ble_eq_true rfl, Nat.le_of_ble_eq_true rfl⟩ ⟨Nat.zero_le _, Nat.zero_le _⟩ rfl hl.1 rfl (Nat.le_of_ble_eq_true rfl) dX10_isSound_2 hS hA (fun H locs hW hsz hfr hS => ?_)
  exact zm_z hx hb hr hlocks (by rw [r_X10_isSound]) (by rw [f_X10_isSound]; exact hW) hS dX10_isSound_5
def f_X10_tellCause (μ : zS) (w1 : Int32) (w2 : Int32) : zS := if y_has μ 843 w1 = true then if w2 = 108 then if (zA μ 68 0 w1.toNatClampNeg) = 1 then (zpI μ 838 0 3) else (zpA (zpI μ 838 0 0) 67 0 w1.toNatClampNeg w2) else if w2 = 104 then if (zA μ 68 0 w1.toNatClampNeg) = 1 then (zpI μ 838 0 3) else if ¬ (zA μ 64 0 w1.toNatClampNeg) = (-1) then (zpA (zpI μ 838 0 0) 67 0 w1.toNatClampNeg w2) else (zpI μ 838 0 3) else if w2 = 114 then if (zA μ 68 0 w1.toNatClampNeg) = 1 then (zpI μ 838 0 3) else if ¬ (zA μ 64 0 w1.toNatClampNeg) = (-1) then (zpA (zpI μ 838 0 0) 67 0 w1.toNatClampNeg w2) else (zpI μ 838 0 3) else if w2 = 99 then if (zA μ 68 0 w1.toNatClampNeg) = 1 then (zpI μ 838 0 3) else (zpA (zpI μ 838 0 0) 67 0 w1.toNatClampNeg w2) else if w2 = 115 then if (zA μ 68 0 w1.toNatClampNeg) = 1 then (zpI μ 838 0 3) else (zpA (zpI μ 838 0 0) 67 0 w1.toNatClampNeg w2) else (zpI μ 838 0 2) else (zpI μ 838 0 1)
def r_X10_tellCause (μ : zS) (w1 : Int32) (w2 : Int32) : Int32 := if y_has μ 843 w1 = true then if w2 = 108 then if (zA μ 68 0 w1.toNatClampNeg) = 1 then 0 else ((zA (zpI μ 838 0 0) 67 0 w1.toNatClampNeg).toUInt32 % 65536).toInt32 else if w2 = 104 then if (zA μ 68 0 w1.toNatClampNeg) = 1 then 0 else if ¬ (zA μ 64 0 w1.toNatClampNeg) = (-1) then ((zA (zpI μ 838 0 0) 67 0 w1.toNatClampNeg).toUInt32 % 65536).toInt32 else 0 else if w2 = 114 then if (zA μ 68 0 w1.toNatClampNeg) = 1 then 0 else if ¬ (zA μ 64 0 w1.toNatClampNeg) = (-1) then ((zA (zpI μ 838 0 0) 67 0 w1.toNatClampNeg).toUInt32 % 65536).toInt32 else 0 else if w2 = 99 then if (zA μ 68 0 w1.toNatClampNeg) = 1 then 0 else ((zA (zpI μ 838 0 0) 67 0 w1.toNatClampNeg).toUInt32 % 65536).toInt32 else if w2 = 115 then if (zA μ 68 0 w1.toNatClampNeg) = 1 then 0 else ((zA (zpI μ 838 0 0) 67 0 w1.toNatClampNeg).toUInt32 % 65536).toInt32 else 0 else 0
theorem zmX10_tellCause : zmV yX10_tellCause RX10 cX10_tellCause 4 (some .char) 2 := ⟨m_1339, m_1340, m_9, m_1341, rfl, by decide, by decide, by decide +kernel⟩
set_option maxRecDepth 100000 in
set_option maxHeartbeats 4000000 in
theorem ctX10_tellCause (l : Launch) (D : va_G) (cy : Nat → ClassId) (ad : Nat → Nat → Nat) (μ : zS) (hj : zinj ad zsM) (w1 : Int32) (w2 : Int32) (hV : yV μ) : Met l yX10_tellCause (zw yX10_tellCause cX10_tellCause 4 (some .char)) (zrm 2) (va_Pc [.ref (ad 30 0), .int w1, .int w2] (zB D cy (zW D cy ad zsM μ))) (zqM (some (.int (r_X10_tellCause μ w1 w2))) (zW D cy ad zsM (f_X10_tellCause μ w1 w2)) (zrg ad zsM)) 0 0 (zrg ad zsM) := by
  refine zmet (by decide) rfl (Nat.le_of_ble_eq_true rfl) rfl (fun p e s m below meth c ls X hml hr hlocks hv hl => ?_)
  obtain ⟨hK, hW⟩ := hv
  obtain ⟨hx, hb, -, -⟩ := id X
  have hl : lv_has ls 4 [(0, .ref (ad 30 0)), (1, .int w1), (2, .int w2)] := hl
  have hS : va_S (zrg ad zsM) s.heap s.heap [] := va_S.rf
  generalize hAe : zrg ad zsM = A at hS ⊢
  have hA : ∀ q, zrg ad zsM q → A q := fun q h => by rw [← hAe]; exact h
  refine lv_aload_n hx hb dX10_tellCause_0 rfl (lv_at hl 0 rfl) ?_
  refine lv_aload_n hx hb dX10_tellCause_1 rfl (lv_at hl 0 rfl) ?_
  refine lv_iload_n hx hb dX10_tellCause_2 rfl (lv_at hl 1 rfl) ?_
  refine zcallRV (As := [.int w1]) (rest := [.ref (ad 30 0)]) X hml hK hW (ctX10_isFinding l D cy ad μ w1) zmX10_isFinding (by decide) m_1334 (zrecv hK (hW 30 0 rfl (by decide)) rfl) ⟨Nat.le_of_ble_eq_true rfl, Nat.le_of_ble_eq_true rfl⟩ ⟨Nat.zero_le _, Nat.zero_le _⟩ rfl hl.1 rfl (Nat.le_of_ble_eq_true rfl) dX10_tellCause_3 ?_
  refine zb_ne (tgt := 13) hx hb dX10_tellCause_6 (by decide) (fun b1 => ?_) (fun b1 => ?_)
  · refine lv_iload_n hx hb dX10_tellCause_13 rfl (lv_at hl 2 rfl) ?_
    refine lv_bipush (v := 108) hx hb dX10_tellCause_14 (by decide) ?_
    refine lv_icmp_eq (tgt := 47) hx hb dX10_tellCause_16 (by decide) (fun b2 => ?_) (fun b2 => ?_)
    · refine lv_aload_n hx hb dX10_tellCause_47 rfl (lv_at hl 0 rfl) ?_
      refine zg8_37 X hK hW m_1143 dX10_tellCause_48 ?_
      refine lv_iload_n hx hb dX10_tellCause_51 rfl (lv_at hl 1 rfl) ?_
      refine za68 X hK hW (yhas_in hV.1.2.2.2.2 (by decide) b1) dX10_tellCause_52 ?_
      refine lv_iconst (v := 1) hx hb dX10_tellCause_53 (by decide) ?_
      refine lv_icmp_eq (tgt := 79) hx hb dX10_tellCause_54 (by decide) (fun b3 => ?_) (fun b3 => ?_)
      · refine lv_iconst (v := 3) hx hb dX10_tellCause_79 (by decide) ?_
        refine lv_goto (tgt := 84) hx hb dX10_tellCause_80 (by decide) ?_
        refine zp8_38 X hK hW hj hA hS m_1144 dX10_tellCause_84 (fun H locs hW hS => ?_)
        refine lv_aload_n hx hb dX10_tellCause_87 rfl (lv_at hl 0 rfl) ?_
        refine zg8_38 X hK hW m_1144 dX10_tellCause_88 ?_
        refine lv_if_le (tgt := 96) hx hb dX10_tellCause_91 (by decide) (fun h => absurd h (show ¬ (3 : Int32) ≤ 0 by decide)) (fun b4 => ?_)
        refine lv_iconst (v := 0) hx hb dX10_tellCause_94 (by decide) ?_
        exact zm_c hx hb hr hlocks (by rw [r_X10_tellCause, if_pos b1, if_pos b2, if_pos b3]) (by rw [r_X10_tellCause, if_pos b1, if_pos b2, if_pos b3] <;> first | exact pk_nc _ | rfl) (by rw [f_X10_tellCause, if_pos b1, if_pos b2, if_pos b3]; exact hW) hS dX10_tellCause_95
      · refine lv_iload_n hx hb dX10_tellCause_57 rfl (lv_at hl 2 rfl) ?_
        refine lv_bipush (v := 104) hx hb dX10_tellCause_58 (by decide) ?_
        refine lv_icmp_eq (tgt := 69) hx hb dX10_tellCause_60 (by decide) (fun h => absurd h (by rw [b2]; decide)) (fun b5 => ?_)
        refine lv_iload_n hx hb dX10_tellCause_63 rfl (lv_at hl 2 rfl) ?_
        refine lv_bipush (v := 114) hx hb dX10_tellCause_64 (by decide) ?_
        refine lv_icmp_ne (tgt := 83) hx hb dX10_tellCause_66 (by decide) (fun b6 => ?_) (fun h => absurd h (by rw [b2]; decide))
        refine lv_iconst (v := 0) hx hb dX10_tellCause_83 (by decide) ?_
        refine zp8_38 X hK hW hj hA hS m_1144 dX10_tellCause_84 (fun H locs hW hS => ?_)
        refine lv_aload_n hx hb dX10_tellCause_87 rfl (lv_at hl 0 rfl) ?_
        refine zg8_38 X hK hW m_1144 dX10_tellCause_88 ?_
        refine lv_if_le (tgt := 96) hx hb dX10_tellCause_91 (by decide) (fun b7 => ?_) (fun h => absurd (show (0 : Int32) ≤ 0 by decide) h)
        refine lv_aload_n hx hb dX10_tellCause_96 rfl (lv_at hl 0 rfl) ?_
        refine zg8_36 X hK hW m_1142 dX10_tellCause_97 ?_
        refine lv_iload_n hx hb dX10_tellCause_100 rfl (lv_at hl 1 rfl) ?_
        refine za67 X hK hW (yhas_in hV.1.2.2.2.2 (by decide) b1) dX10_tellCause_101 ?_
        refine lv_istore_n (lv' := [(3, .int (zA (zpI μ 838 0 0) 67 0 w1.toNatClampNeg)), (0, .ref (ad 30 0)), (1, .int w1), (2, .int w2)]) hx hb dX10_tellCause_102 rfl hl (by decide) rfl (fun ls hl => ?_)
        refine lv_aload_n hx hb dX10_tellCause_103 rfl (lv_at hl 1 rfl) ?_
        refine zg8_36 X hK hW m_1142 dX10_tellCause_104 ?_
        refine lv_iload_n hx hb dX10_tellCause_107 rfl (lv_at hl 2 rfl) ?_
        refine lv_iload_n hx hb dX10_tellCause_108 rfl (lv_at hl 3 rfl) ?_
        refine zs67 X hK hW hj hA hS (yhas_in hV.1.2.2.2.2 (by decide) b1) dX10_tellCause_109 (fun H locs hW hS => ?_)
        refine lv_iload_n hx hb dX10_tellCause_110 rfl (lv_at hl 0 rfl) ?_
        refine lv_i2c (v := ((zA (zpI μ 838 0 0) 67 0 w1.toNatClampNeg).toUInt32 % 65536).toInt32) hx hb dX10_tellCause_111 rfl ?_
        exact zm_c hx hb hr hlocks (by rw [r_X10_tellCause, if_pos b1, if_pos b2, if_neg b3]) (by rw [r_X10_tellCause, if_pos b1, if_pos b2, if_neg b3] <;> first | exact pk_nc _ | rfl) (by rw [f_X10_tellCause, if_pos b1, if_pos b2, if_neg b3]; exact hW) hS dX10_tellCause_112
    · refine lv_iload_n hx hb dX10_tellCause_19 rfl (lv_at hl 2 rfl) ?_
      refine lv_bipush (v := 104) hx hb dX10_tellCause_20 (by decide) ?_
      refine lv_icmp_eq (tgt := 47) hx hb dX10_tellCause_22 (by decide) (fun b8 => ?_) (fun b8 => ?_)
      · refine lv_aload_n hx hb dX10_tellCause_47 rfl (lv_at hl 0 rfl) ?_
        refine zg8_37 X hK hW m_1143 dX10_tellCause_48 ?_
        refine lv_iload_n hx hb dX10_tellCause_51 rfl (lv_at hl 1 rfl) ?_
        refine za68 X hK hW (yhas_in hV.1.2.2.2.2 (by decide) b1) dX10_tellCause_52 ?_
        refine lv_iconst (v := 1) hx hb dX10_tellCause_53 (by decide) ?_
        refine lv_icmp_eq (tgt := 79) hx hb dX10_tellCause_54 (by decide) (fun b9 => ?_) (fun b9 => ?_)
        · refine lv_iconst (v := 3) hx hb dX10_tellCause_79 (by decide) ?_
          refine lv_goto (tgt := 84) hx hb dX10_tellCause_80 (by decide) ?_
          refine zp8_38 X hK hW hj hA hS m_1144 dX10_tellCause_84 (fun H locs hW hS => ?_)
          refine lv_aload_n hx hb dX10_tellCause_87 rfl (lv_at hl 0 rfl) ?_
          refine zg8_38 X hK hW m_1144 dX10_tellCause_88 ?_
          refine lv_if_le (tgt := 96) hx hb dX10_tellCause_91 (by decide) (fun h => absurd h (show ¬ (3 : Int32) ≤ 0 by decide)) (fun b10 => ?_)
          refine lv_iconst (v := 0) hx hb dX10_tellCause_94 (by decide) ?_
          exact zm_c hx hb hr hlocks (by rw [r_X10_tellCause, if_pos b1, if_neg b2, if_pos b8, if_pos b9]) (by rw [r_X10_tellCause, if_pos b1, if_neg b2, if_pos b8, if_pos b9] <;> first | exact pk_nc _ | rfl) (by rw [f_X10_tellCause, if_pos b1, if_neg b2, if_pos b8, if_pos b9]; exact hW) hS dX10_tellCause_95
        · refine lv_iload_n hx hb dX10_tellCause_57 rfl (lv_at hl 2 rfl) ?_
          refine lv_bipush (v := 104) hx hb dX10_tellCause_58 (by decide) ?_
          refine lv_icmp_eq (tgt := 69) hx hb dX10_tellCause_60 (by decide) (fun b11 => ?_) (fun h => absurd b8 h)
          refine lv_aload_n hx hb dX10_tellCause_69 rfl (lv_at hl 0 rfl) ?_
          refine zg8_33 X hK hW m_1139 dX10_tellCause_70 ?_
          refine lv_iload_n hx hb dX10_tellCause_73 rfl (lv_at hl 1 rfl) ?_
          refine za64 X hK hW (yhas_in hV.1.2.2.2.2 (by decide) b1) dX10_tellCause_74 ?_
          refine lv_iconst (v := (-1)) hx hb dX10_tellCause_75 (by decide) ?_
          refine lv_icmp_ne (tgt := 83) hx hb dX10_tellCause_76 (by decide) (fun b12 => ?_) (fun b12 => ?_)
          · refine lv_iconst (v := 0) hx hb dX10_tellCause_83 (by decide) ?_
            refine zp8_38 X hK hW hj hA hS m_1144 dX10_tellCause_84 (fun H locs hW hS => ?_)
            refine lv_aload_n hx hb dX10_tellCause_87 rfl (lv_at hl 0 rfl) ?_
            refine zg8_38 X hK hW m_1144 dX10_tellCause_88 ?_
            refine lv_if_le (tgt := 96) hx hb dX10_tellCause_91 (by decide) (fun b13 => ?_) (fun h => absurd (show (0 : Int32) ≤ 0 by decide) h)
            refine lv_aload_n hx hb dX10_tellCause_96 rfl (lv_at hl 0 rfl) ?_
            refine zg8_36 X hK hW m_1142 dX10_tellCause_97 ?_
            refine lv_iload_n hx hb dX10_tellCause_100 rfl (lv_at hl 1 rfl) ?_
            refine za67 X hK hW (yhas_in hV.1.2.2.2.2 (by decide) b1) dX10_tellCause_101 ?_
            refine lv_istore_n (lv' := [(3, .int (zA (zpI μ 838 0 0) 67 0 w1.toNatClampNeg)), (0, .ref (ad 30 0)), (1, .int w1), (2, .int w2)]) hx hb dX10_tellCause_102 rfl hl (by decide) rfl (fun ls hl => ?_)
            refine lv_aload_n hx hb dX10_tellCause_103 rfl (lv_at hl 1 rfl) ?_
            refine zg8_36 X hK hW m_1142 dX10_tellCause_104 ?_
            refine lv_iload_n hx hb dX10_tellCause_107 rfl (lv_at hl 2 rfl) ?_
            refine lv_iload_n hx hb dX10_tellCause_108 rfl (lv_at hl 3 rfl) ?_
            refine zs67 X hK hW hj hA hS (yhas_in hV.1.2.2.2.2 (by decide) b1) dX10_tellCause_109 (fun H locs hW hS => ?_)
            refine lv_iload_n hx hb dX10_tellCause_110 rfl (lv_at hl 0 rfl) ?_
            refine lv_i2c (v := ((zA (zpI μ 838 0 0) 67 0 w1.toNatClampNeg).toUInt32 % 65536).toInt32) hx hb dX10_tellCause_111 rfl ?_
            exact zm_c hx hb hr hlocks (by rw [r_X10_tellCause, if_pos b1, if_neg b2, if_pos b8, if_neg b9, if_pos b12]) (by rw [r_X10_tellCause, if_pos b1, if_neg b2, if_pos b8, if_neg b9, if_pos b12] <;> first | exact pk_nc _ | rfl) (by rw [f_X10_tellCause, if_pos b1, if_neg b2, if_pos b8, if_neg b9, if_pos b12]; exact hW) hS dX10_tellCause_112
          · refine lv_iconst (v := 3) hx hb dX10_tellCause_79 (by decide) ?_
            refine lv_goto (tgt := 84) hx hb dX10_tellCause_80 (by decide) ?_
            refine zp8_38 X hK hW hj hA hS m_1144 dX10_tellCause_84 (fun H locs hW hS => ?_)
            refine lv_aload_n hx hb dX10_tellCause_87 rfl (lv_at hl 0 rfl) ?_
            refine zg8_38 X hK hW m_1144 dX10_tellCause_88 ?_
            refine lv_if_le (tgt := 96) hx hb dX10_tellCause_91 (by decide) (fun h => absurd h (show ¬ (3 : Int32) ≤ 0 by decide)) (fun b14 => ?_)
            refine lv_iconst (v := 0) hx hb dX10_tellCause_94 (by decide) ?_
            exact zm_c hx hb hr hlocks (by rw [r_X10_tellCause, if_pos b1, if_neg b2, if_pos b8, if_neg b9, if_neg (not_not_intro b12)]) (by rw [r_X10_tellCause, if_pos b1, if_neg b2, if_pos b8, if_neg b9, if_neg (not_not_intro b12)] <;> first | exact pk_nc _ | rfl) (by rw [f_X10_tellCause, if_pos b1, if_neg b2, if_pos b8, if_neg b9, if_neg (not_not_intro b12)]; exact hW) hS dX10_tellCause_95
      · refine lv_iload_n hx hb dX10_tellCause_25 rfl (lv_at hl 2 rfl) ?_
        refine lv_bipush (v := 114) hx hb dX10_tellCause_26 (by decide) ?_
        refine lv_icmp_eq (tgt := 47) hx hb dX10_tellCause_28 (by decide) (fun b15 => ?_) (fun b15 => ?_)
        · refine lv_aload_n hx hb dX10_tellCause_47 rfl (lv_at hl 0 rfl) ?_
          refine zg8_37 X hK hW m_1143 dX10_tellCause_48 ?_
          refine lv_iload_n hx hb dX10_tellCause_51 rfl (lv_at hl 1 rfl) ?_
          refine za68 X hK hW (yhas_in hV.1.2.2.2.2 (by decide) b1) dX10_tellCause_52 ?_
          refine lv_iconst (v := 1) hx hb dX10_tellCause_53 (by decide) ?_
          refine lv_icmp_eq (tgt := 79) hx hb dX10_tellCause_54 (by decide) (fun b16 => ?_) (fun b16 => ?_)
          · refine lv_iconst (v := 3) hx hb dX10_tellCause_79 (by decide) ?_
            refine lv_goto (tgt := 84) hx hb dX10_tellCause_80 (by decide) ?_
            refine zp8_38 X hK hW hj hA hS m_1144 dX10_tellCause_84 (fun H locs hW hS => ?_)
            refine lv_aload_n hx hb dX10_tellCause_87 rfl (lv_at hl 0 rfl) ?_
            refine zg8_38 X hK hW m_1144 dX10_tellCause_88 ?_
            refine lv_if_le (tgt := 96) hx hb dX10_tellCause_91 (by decide) (fun h => absurd h (show ¬ (3 : Int32) ≤ 0 by decide)) (fun b17 => ?_)
            refine lv_iconst (v := 0) hx hb dX10_tellCause_94 (by decide) ?_
            exact zm_c hx hb hr hlocks (by rw [r_X10_tellCause, if_pos b1, if_neg b2, if_neg b8, if_pos b15, if_pos b16]) (by rw [r_X10_tellCause, if_pos b1, if_neg b2, if_neg b8, if_pos b15, if_pos b16] <;> first | exact pk_nc _ | rfl) (by rw [f_X10_tellCause, if_pos b1, if_neg b2, if_neg b8, if_pos b15, if_pos b16]; exact hW) hS dX10_tellCause_95
          · refine lv_iload_n hx hb dX10_tellCause_57 rfl (lv_at hl 2 rfl) ?_
            refine lv_bipush (v := 104) hx hb dX10_tellCause_58 (by decide) ?_
            refine lv_icmp_eq (tgt := 69) hx hb dX10_tellCause_60 (by decide) (fun h => absurd h (by rw [b15]; decide)) (fun b18 => ?_)
            refine lv_iload_n hx hb dX10_tellCause_63 rfl (lv_at hl 2 rfl) ?_
            refine lv_bipush (v := 114) hx hb dX10_tellCause_64 (by decide) ?_
            refine lv_icmp_ne (tgt := 83) hx hb dX10_tellCause_66 (by decide) (fun h => absurd h (not_not_intro b15)) (fun b19 => ?_)
            refine lv_aload_n hx hb dX10_tellCause_69 rfl (lv_at hl 0 rfl) ?_
            refine zg8_33 X hK hW m_1139 dX10_tellCause_70 ?_
            refine lv_iload_n hx hb dX10_tellCause_73 rfl (lv_at hl 1 rfl) ?_
            refine za64 X hK hW (yhas_in hV.1.2.2.2.2 (by decide) b1) dX10_tellCause_74 ?_
            refine lv_iconst (v := (-1)) hx hb dX10_tellCause_75 (by decide) ?_
            refine lv_icmp_ne (tgt := 83) hx hb dX10_tellCause_76 (by decide) (fun b20 => ?_) (fun b20 => ?_)
            · refine lv_iconst (v := 0) hx hb dX10_tellCause_83 (by decide) ?_
              refine zp8_38 X hK hW hj hA hS m_1144 dX10_tellCause_84 (fun H locs hW hS => ?_)
              refine lv_aload_n hx hb dX10_tellCause_87 rfl (lv_at hl 0 rfl) ?_
              refine zg8_38 X hK hW m_1144 dX10_tellCause_88 ?_
              refine lv_if_le (tgt := 96) hx hb dX10_tellCause_91 (by decide) (fun b21 => ?_) (fun h => absurd (show (0 : Int32) ≤ 0 by decide) h)
              refine lv_aload_n hx hb dX10_tellCause_96 rfl (lv_at hl 0 rfl) ?_
              refine zg8_36 X hK hW m_1142 dX10_tellCause_97 ?_
              refine lv_iload_n hx hb dX10_tellCause_100 rfl (lv_at hl 1 rfl) ?_
              refine za67 X hK hW (yhas_in hV.1.2.2.2.2 (by decide) b1) dX10_tellCause_101 ?_
              refine lv_istore_n (lv' := [(3, .int (zA (zpI μ 838 0 0) 67 0 w1.toNatClampNeg)), (0, .ref (ad 30 0)), (1, .int w1), (2, .int w2)]) hx hb dX10_tellCause_102 rfl hl (by decide) rfl (fun ls hl => ?_)
              refine lv_aload_n hx hb dX10_tellCause_103 rfl (lv_at hl 1 rfl) ?_
              refine zg8_36 X hK hW m_1142 dX10_tellCause_104 ?_
              refine lv_iload_n hx hb dX10_tellCause_107 rfl (lv_at hl 2 rfl) ?_
              refine lv_iload_n hx hb dX10_tellCause_108 rfl (lv_at hl 3 rfl) ?_
              refine zs67 X hK hW hj hA hS (yhas_in hV.1.2.2.2.2 (by decide) b1) dX10_tellCause_109 (fun H locs hW hS => ?_)
              refine lv_iload_n hx hb dX10_tellCause_110 rfl (lv_at hl 0 rfl) ?_
              refine lv_i2c (v := ((zA (zpI μ 838 0 0) 67 0 w1.toNatClampNeg).toUInt32 % 65536).toInt32) hx hb dX10_tellCause_111 rfl ?_
              exact zm_c hx hb hr hlocks (by rw [r_X10_tellCause, if_pos b1, if_neg b2, if_neg b8, if_pos b15, if_neg b16, if_pos b20]) (by rw [r_X10_tellCause, if_pos b1, if_neg b2, if_neg b8, if_pos b15, if_neg b16, if_pos b20] <;> first | exact pk_nc _ | rfl) (by rw [f_X10_tellCause, if_pos b1, if_neg b2, if_neg b8, if_pos b15, if_neg b16, if_pos b20]; exact hW) hS dX10_tellCause_112
            · refine lv_iconst (v := 3) hx hb dX10_tellCause_79 (by decide) ?_
              refine lv_goto (tgt := 84) hx hb dX10_tellCause_80 (by decide) ?_
              refine zp8_38 X hK hW hj hA hS m_1144 dX10_tellCause_84 (fun H locs hW hS => ?_)
              refine lv_aload_n hx hb dX10_tellCause_87 rfl (lv_at hl 0 rfl) ?_
              refine zg8_38 X hK hW m_1144 dX10_tellCause_88 ?_
              refine lv_if_le (tgt := 96) hx hb dX10_tellCause_91 (by decide) (fun h => absurd h (show ¬ (3 : Int32) ≤ 0 by decide)) (fun b22 => ?_)
              refine lv_iconst (v := 0) hx hb dX10_tellCause_94 (by decide) ?_
              exact zm_c hx hb hr hlocks (by rw [r_X10_tellCause, if_pos b1, if_neg b2, if_neg b8, if_pos b15, if_neg b16, if_neg (not_not_intro b20)]) (by rw [r_X10_tellCause, if_pos b1, if_neg b2, if_neg b8, if_pos b15, if_neg b16, if_neg (not_not_intro b20)] <;> first | exact pk_nc _ | rfl) (by rw [f_X10_tellCause, if_pos b1, if_neg b2, if_neg b8, if_pos b15, if_neg b16, if_neg (not_not_intro b20)]; exact hW) hS dX10_tellCause_95
        · refine lv_iload_n hx hb dX10_tellCause_31 rfl (lv_at hl 2 rfl) ?_
          refine lv_bipush (v := 99) hx hb dX10_tellCause_32 (by decide) ?_
          refine lv_icmp_eq (tgt := 47) hx hb dX10_tellCause_34 (by decide) (fun b23 => ?_) (fun b23 => ?_)
          · refine lv_aload_n hx hb dX10_tellCause_47 rfl (lv_at hl 0 rfl) ?_
            refine zg8_37 X hK hW m_1143 dX10_tellCause_48 ?_
            refine lv_iload_n hx hb dX10_tellCause_51 rfl (lv_at hl 1 rfl) ?_
            refine za68 X hK hW (yhas_in hV.1.2.2.2.2 (by decide) b1) dX10_tellCause_52 ?_
            refine lv_iconst (v := 1) hx hb dX10_tellCause_53 (by decide) ?_
            refine lv_icmp_eq (tgt := 79) hx hb dX10_tellCause_54 (by decide) (fun b24 => ?_) (fun b24 => ?_)
            · refine lv_iconst (v := 3) hx hb dX10_tellCause_79 (by decide) ?_
              refine lv_goto (tgt := 84) hx hb dX10_tellCause_80 (by decide) ?_
              refine zp8_38 X hK hW hj hA hS m_1144 dX10_tellCause_84 (fun H locs hW hS => ?_)
              refine lv_aload_n hx hb dX10_tellCause_87 rfl (lv_at hl 0 rfl) ?_
              refine zg8_38 X hK hW m_1144 dX10_tellCause_88 ?_
              refine lv_if_le (tgt := 96) hx hb dX10_tellCause_91 (by decide) (fun h => absurd h (show ¬ (3 : Int32) ≤ 0 by decide)) (fun b25 => ?_)
              refine lv_iconst (v := 0) hx hb dX10_tellCause_94 (by decide) ?_
              exact zm_c hx hb hr hlocks (by rw [r_X10_tellCause, if_pos b1, if_neg b2, if_neg b8, if_neg b15, if_pos b23, if_pos b24]) (by rw [r_X10_tellCause, if_pos b1, if_neg b2, if_neg b8, if_neg b15, if_pos b23, if_pos b24] <;> first | exact pk_nc _ | rfl) (by rw [f_X10_tellCause, if_pos b1, if_neg b2, if_neg b8, if_neg b15, if_pos b23, if_pos b24]; exact hW) hS dX10_tellCause_95
            · refine lv_iload_n hx hb dX10_tellCause_57 rfl (lv_at hl 2 rfl) ?_
              refine lv_bipush (v := 104) hx hb dX10_tellCause_58 (by decide) ?_
              refine lv_icmp_eq (tgt := 69) hx hb dX10_tellCause_60 (by decide) (fun h => absurd h (by rw [b23]; decide)) (fun b26 => ?_)
              refine lv_iload_n hx hb dX10_tellCause_63 rfl (lv_at hl 2 rfl) ?_
              refine lv_bipush (v := 114) hx hb dX10_tellCause_64 (by decide) ?_
              refine lv_icmp_ne (tgt := 83) hx hb dX10_tellCause_66 (by decide) (fun b27 => ?_) (fun h => absurd h (by rw [b23]; decide))
              refine lv_iconst (v := 0) hx hb dX10_tellCause_83 (by decide) ?_
              refine zp8_38 X hK hW hj hA hS m_1144 dX10_tellCause_84 (fun H locs hW hS => ?_)
              refine lv_aload_n hx hb dX10_tellCause_87 rfl (lv_at hl 0 rfl) ?_
              refine zg8_38 X hK hW m_1144 dX10_tellCause_88 ?_
              refine lv_if_le (tgt := 96) hx hb dX10_tellCause_91 (by decide) (fun b28 => ?_) (fun h => absurd (show (0 : Int32) ≤ 0 by decide) h)
              refine lv_aload_n hx hb dX10_tellCause_96 rfl (lv_at hl 0 rfl) ?_
              refine zg8_36 X hK hW m_1142 dX10_tellCause_97 ?_
              refine lv_iload_n hx hb dX10_tellCause_100 rfl (lv_at hl 1 rfl) ?_
              refine za67 X hK hW (yhas_in hV.1.2.2.2.2 (by decide) b1) dX10_tellCause_101 ?_
              refine lv_istore_n (lv' := [(3, .int (zA (zpI μ 838 0 0) 67 0 w1.toNatClampNeg)), (0, .ref (ad 30 0)), (1, .int w1), (2, .int w2)]) hx hb dX10_tellCause_102 rfl hl (by decide) rfl (fun ls hl => ?_)
              refine lv_aload_n hx hb dX10_tellCause_103 rfl (lv_at hl 1 rfl) ?_
              refine zg8_36 X hK hW m_1142 dX10_tellCause_104 ?_
              refine lv_iload_n hx hb dX10_tellCause_107 rfl (lv_at hl 2 rfl) ?_
              refine lv_iload_n hx hb dX10_tellCause_108 rfl (lv_at hl 3 rfl) ?_
              refine zs67 X hK hW hj hA hS (yhas_in hV.1.2.2.2.2 (by decide) b1) dX10_tellCause_109 (fun H locs hW hS => ?_)
              refine lv_iload_n hx hb dX10_tellCause_110 rfl (lv_at hl 0 rfl) ?_
              refine lv_i2c (v := ((zA (zpI μ 838 0 0) 67 0 w1.toNatClampNeg).toUInt32 % 65536).toInt32) hx hb dX10_tellCause_111 rfl ?_
              exact zm_c hx hb hr hlocks (by rw [r_X10_tellCause, if_pos b1, if_neg b2, if_neg b8, if_neg b15, if_pos b23, if_neg b24]) (by rw [r_X10_tellCause, if_pos b1, if_neg b2, if_neg b8, if_neg b15, if_pos b23, if_neg b24] <;> first | exact pk_nc _ | rfl) (by rw [f_X10_tellCause, if_pos b1, if_neg b2, if_neg b8, if_neg b15, if_pos b23, if_neg b24]; exact hW) hS dX10_tellCause_112
          · refine lv_iload_n hx hb dX10_tellCause_37 rfl (lv_at hl 2 rfl) ?_
            refine lv_bipush (v := 115) hx hb dX10_tellCause_38 (by decide) ?_
            refine lv_icmp_eq (tgt := 47) hx hb dX10_tellCause_40 (by decide) (fun b29 => ?_) (fun b29 => ?_)
            · refine lv_aload_n hx hb dX10_tellCause_47 rfl (lv_at hl 0 rfl) ?_
              refine zg8_37 X hK hW m_1143 dX10_tellCause_48 ?_
              refine lv_iload_n hx hb dX10_tellCause_51 rfl (lv_at hl 1 rfl) ?_
              refine za68 X hK hW (yhas_in hV.1.2.2.2.2 (by decide) b1) dX10_tellCause_52 ?_
              refine lv_iconst (v := 1) hx hb dX10_tellCause_53 (by decide) ?_
              refine lv_icmp_eq (tgt := 79) hx hb dX10_tellCause_54 (by decide) (fun b30 => ?_) (fun b30 => ?_)
              · refine lv_iconst (v := 3) hx hb dX10_tellCause_79 (by decide) ?_
                refine lv_goto (tgt := 84) hx hb dX10_tellCause_80 (by decide) ?_
                refine zp8_38 X hK hW hj hA hS m_1144 dX10_tellCause_84 (fun H locs hW hS => ?_)
                refine lv_aload_n hx hb dX10_tellCause_87 rfl (lv_at hl 0 rfl) ?_
                refine zg8_38 X hK hW m_1144 dX10_tellCause_88 ?_
                refine lv_if_le (tgt := 96) hx hb dX10_tellCause_91 (by decide) (fun h => absurd h (show ¬ (3 : Int32) ≤ 0 by decide)) (fun b31 => ?_)
                refine lv_iconst (v := 0) hx hb dX10_tellCause_94 (by decide) ?_
                exact zm_c hx hb hr hlocks (by rw [r_X10_tellCause, if_pos b1, if_neg b2, if_neg b8, if_neg b15, if_neg b23, if_pos b29, if_pos b30]) (by rw [r_X10_tellCause, if_pos b1, if_neg b2, if_neg b8, if_neg b15, if_neg b23, if_pos b29, if_pos b30] <;> first | exact pk_nc _ | rfl) (by rw [f_X10_tellCause, if_pos b1, if_neg b2, if_neg b8, if_neg b15, if_neg b23, if_pos b29, if_pos b30]; exact hW) hS dX10_tellCause_95
              · refine lv_iload_n hx hb dX10_tellCause_57 rfl (lv_at hl 2 rfl) ?_
                refine lv_bipush (v := 104) hx hb dX10_tellCause_58 (by decide) ?_
                refine lv_icmp_eq (tgt := 69) hx hb dX10_tellCause_60 (by decide) (fun h => absurd h (by rw [b29]; decide)) (fun b32 => ?_)
                refine lv_iload_n hx hb dX10_tellCause_63 rfl (lv_at hl 2 rfl) ?_
                refine lv_bipush (v := 114) hx hb dX10_tellCause_64 (by decide) ?_
                refine lv_icmp_ne (tgt := 83) hx hb dX10_tellCause_66 (by decide) (fun b33 => ?_) (fun h => absurd h (by rw [b29]; decide))
                refine lv_iconst (v := 0) hx hb dX10_tellCause_83 (by decide) ?_
                refine zp8_38 X hK hW hj hA hS m_1144 dX10_tellCause_84 (fun H locs hW hS => ?_)
                refine lv_aload_n hx hb dX10_tellCause_87 rfl (lv_at hl 0 rfl) ?_
                refine zg8_38 X hK hW m_1144 dX10_tellCause_88 ?_
                refine lv_if_le (tgt := 96) hx hb dX10_tellCause_91 (by decide) (fun b34 => ?_) (fun h => absurd (show (0 : Int32) ≤ 0 by decide) h)
                refine lv_aload_n hx hb dX10_tellCause_96 rfl (lv_at hl 0 rfl) ?_
                refine zg8_36 X hK hW m_1142 dX10_tellCause_97 ?_
                refine lv_iload_n hx hb dX10_tellCause_100 rfl (lv_at hl 1 rfl) ?_
                refine za67 X hK hW (yhas_in hV.1.2.2.2.2 (by decide) b1) dX10_tellCause_101 ?_
                refine lv_istore_n (lv' := [(3, .int (zA (zpI μ 838 0 0) 67 0 w1.toNatClampNeg)), (0, .ref (ad 30 0)), (1, .int w1), (2, .int w2)]) hx hb dX10_tellCause_102 rfl hl (by decide) rfl (fun ls hl => ?_)
                refine lv_aload_n hx hb dX10_tellCause_103 rfl (lv_at hl 1 rfl) ?_
                refine zg8_36 X hK hW m_1142 dX10_tellCause_104 ?_
                refine lv_iload_n hx hb dX10_tellCause_107 rfl (lv_at hl 2 rfl) ?_
                refine lv_iload_n hx hb dX10_tellCause_108 rfl (lv_at hl 3 rfl) ?_
                refine zs67 X hK hW hj hA hS (yhas_in hV.1.2.2.2.2 (by decide) b1) dX10_tellCause_109 (fun H locs hW hS => ?_)
                refine lv_iload_n hx hb dX10_tellCause_110 rfl (lv_at hl 0 rfl) ?_
                refine lv_i2c (v := ((zA (zpI μ 838 0 0) 67 0 w1.toNatClampNeg).toUInt32 % 65536).toInt32) hx hb dX10_tellCause_111 rfl ?_
                exact zm_c hx hb hr hlocks (by rw [r_X10_tellCause, if_pos b1, if_neg b2, if_neg b8, if_neg b15, if_neg b23, if_pos b29, if_neg b30]) (by rw [r_X10_tellCause, if_pos b1, if_neg b2, if_neg b8, if_neg b15, if_neg b23, if_pos b29, if_neg b30] <;> first | exact pk_nc _ | rfl) (by rw [f_X10_tellCause, if_pos b1, if_neg b2, if_neg b8, if_neg b15, if_neg b23, if_pos b29, if_neg b30]; exact hW) hS dX10_tellCause_112
            · refine lv_iconst (v := 2) hx hb dX10_tellCause_43 (by decide) ?_
              refine lv_goto (tgt := 84) hx hb dX10_tellCause_44 (by decide) ?_
              refine zp8_38 X hK hW hj hA hS m_1144 dX10_tellCause_84 (fun H locs hW hS => ?_)
              refine lv_aload_n hx hb dX10_tellCause_87 rfl (lv_at hl 0 rfl) ?_
              refine zg8_38 X hK hW m_1144 dX10_tellCause_88 ?_
              refine lv_if_le (tgt := 96) hx hb dX10_tellCause_91 (by decide) (fun h => absurd h (show ¬ (2 : Int32) ≤ 0 by decide)) (fun b35 => ?_)
              refine lv_iconst (v := 0) hx hb dX10_tellCause_94 (by decide) ?_
              exact zm_c hx hb hr hlocks (by rw [r_X10_tellCause, if_pos b1, if_neg b2, if_neg b8, if_neg b15, if_neg b23, if_neg b29]) (by rw [r_X10_tellCause, if_pos b1, if_neg b2, if_neg b8, if_neg b15, if_neg b23, if_neg b29] <;> first | exact pk_nc _ | rfl) (by rw [f_X10_tellCause, if_pos b1, if_neg b2, if_neg b8, if_neg b15, if_neg b23, if_neg b29]; exact hW) hS dX10_tellCause_95
  · refine lv_iconst (v := 1) hx hb dX10_tellCause_9 (by decide) ?_
    refine lv_goto (tgt := 84) hx hb dX10_tellCause_10 (by decide) ?_
    refine zp8_38 X hK hW hj hA hS m_1144 dX10_tellCause_84 (fun H locs hW hS => ?_)
    refine lv_aload_n hx hb dX10_tellCause_87 rfl (lv_at hl 0 rfl) ?_
    refine zg8_38 X hK hW m_1144 dX10_tellCause_88 ?_
    refine lv_if_le (tgt := 96) hx hb dX10_tellCause_91 (by decide) (fun h => absurd h (show ¬ (1 : Int32) ≤ 0 by decide)) (fun b36 => ?_)
    refine lv_iconst (v := 0) hx hb dX10_tellCause_94 (by decide) ?_
    exact zm_c hx hb hr hlocks (by rw [r_X10_tellCause, if_neg (by simp [b1])]) (by rw [r_X10_tellCause, if_neg (by simp [b1])] <;> first | exact pk_nc _ | rfl) (by rw [f_X10_tellCause, if_neg (by simp [b1])]; exact hW) hS dX10_tellCause_95
def f_X10_stateOf (μ : zS) (w1 : Int32) : zS := if y_has μ 840 w1 = false then (zpI μ 838 0 1) else (zpI μ 838 0 0)
def r_X10_stateOf (μ : zS) (w1 : Int32) : Int32 := if y_has μ 840 w1 = false then 0 else ((zA (zpI μ 838 0 0) 38 0 w1.toNatClampNeg).toUInt32 % 65536).toInt32
theorem zmX10_stateOf : zmV yX10_stateOf RX10 cX10_stateOf 2 (some .char) 1 := ⟨m_1432, m_1433, m_9, m_1434, rfl, by decide, by decide, by decide +kernel⟩
set_option maxRecDepth 100000 in
set_option maxHeartbeats 4000000 in
theorem ctX10_stateOf (l : Launch) (D : va_G) (cy : Nat → ClassId) (ad : Nat → Nat → Nat) (μ : zS) (hj : zinj ad zsM) (w1 : Int32) (hV : yV μ) : Met l yX10_stateOf (zw yX10_stateOf cX10_stateOf 2 (some .char)) (zrm 2) (va_Pc [.ref (ad 30 0), .int w1] (zB D cy (zW D cy ad zsM μ))) (zqM (some (.int (r_X10_stateOf μ w1))) (zW D cy ad zsM (f_X10_stateOf μ w1)) (zrg ad zsM)) 0 0 (zrg ad zsM) := by
  refine zmet (by decide) rfl (Nat.le_of_ble_eq_true rfl) rfl (fun p e s m below meth c ls X hml hr hlocks hv hl => ?_)
  obtain ⟨hK, hW⟩ := hv
  obtain ⟨hx, hb, -, -⟩ := id X
  have hl : lv_has ls 2 [(0, .ref (ad 30 0)), (1, .int w1)] := hl
  have hS : va_S (zrg ad zsM) s.heap s.heap [] := va_S.rf
  generalize hAe : zrg ad zsM = A at hS ⊢
  have hA : ∀ q, zrg ad zsM q → A q := fun q h => by rw [← hAe]; exact h
  refine lv_aload_n hx hb dX10_stateOf_0 rfl (lv_at hl 0 rfl) ?_
  refine lv_aload_n hx hb dX10_stateOf_1 rfl (lv_at hl 0 rfl) ?_
  refine lv_iload_n hx hb dX10_stateOf_2 rfl (lv_at hl 1 rfl) ?_
  refine zcallRV (As := [.int w1]) (rest := [.ref (ad 30 0)]) X hml hK hW (ctX10_isCanopy l D cy ad μ w1) zmX10_isCanopy (by decide) m_1294 (zrecv hK (hW 30 0 rfl (by decide)) rfl) ⟨Nat.le_of_ble_eq_true rfl, Nat.le_of_ble_eq_true rfl⟩ ⟨Nat.zero_le _, Nat.zero_le _⟩ rfl hl.1 rfl (Nat.le_of_ble_eq_true rfl) dX10_stateOf_3 ?_
  refine zb_eq (tgt := 13) hx hb dX10_stateOf_6 (by decide) (fun b1 => ?_) (fun b1 => ?_)
  · refine lv_iconst (v := 1) hx hb dX10_stateOf_13 (by decide) ?_
    refine zp8_38 X hK hW hj hA hS m_1144 dX10_stateOf_14 (fun H locs hW hS => ?_)
    refine lv_aload_n hx hb dX10_stateOf_17 rfl (lv_at hl 0 rfl) ?_
    refine zg8_38 X hK hW m_1144 dX10_stateOf_18 ?_
    refine lv_if_ne (tgt := 34) hx hb dX10_stateOf_21 (by decide) (fun b2 => ?_) (fun h => absurd h (show ¬ (1 : Int32) = 0 by decide))
    refine lv_iconst (v := 0) hx hb dX10_stateOf_34 (by decide) ?_
    exact zm_c hx hb hr hlocks (by rw [r_X10_stateOf, if_pos b1]) (by rw [r_X10_stateOf, if_pos b1] <;> first | exact pk_nc _ | rfl) (by rw [f_X10_stateOf, if_pos b1]; exact hW) hS dX10_stateOf_35
  · refine lv_iconst (v := 0) hx hb dX10_stateOf_9 (by decide) ?_
    refine lv_goto (tgt := 14) hx hb dX10_stateOf_10 (by decide) ?_
    refine zp8_38 X hK hW hj hA hS m_1144 dX10_stateOf_14 (fun H locs hW hS => ?_)
    refine lv_aload_n hx hb dX10_stateOf_17 rfl (lv_at hl 0 rfl) ?_
    refine zg8_38 X hK hW m_1144 dX10_stateOf_18 ?_
    refine lv_if_ne (tgt := 34) hx hb dX10_stateOf_21 (by decide) (fun h => absurd h (show ¬ ¬ (0 : Int32) = 0 by decide)) (fun b3 => ?_)
    refine lv_aload_n hx hb dX10_stateOf_24 rfl (lv_at hl 0 rfl) ?_
    refine zg8_7 X hK hW m_1113 dX10_stateOf_25 ?_
    refine lv_iload_n hx hb dX10_stateOf_28 rfl (lv_at hl 1 rfl) ?_
    refine za38 X hK hW (yhas_in hV.1.2.1 (by decide) b1) dX10_stateOf_29 ?_
    refine lv_i2c (v := ((zA (zpI μ 838 0 0) 38 0 w1.toNatClampNeg).toUInt32 % 65536).toInt32) hx hb dX10_stateOf_30 rfl ?_
    refine lv_goto (tgt := 35) hx hb dX10_stateOf_31 (by decide) ?_
    exact zm_c hx hb hr hlocks (by rw [r_X10_stateOf, if_neg (by simp [b1])]) (by rw [r_X10_stateOf, if_neg (by simp [b1])] <;> first | exact pk_nc _ | rfl) (by rw [f_X10_stateOf, if_neg (by simp [b1])]; exact hW) hS dX10_stateOf_35
def f_X10_isGrounded (μ : zS) (w1 : Int32) : zS := if y_has μ 840 w1 = false then (f_X10_refuses μ 1) else (f_X10_tells μ (y_down μ w1.toNatClampNeg))
def r_X10_isGrounded (μ : zS) (w1 : Int32) : Bool := if y_has μ 840 w1 = false then r_X10_refuses μ 1 else r_X10_tells μ (y_down μ w1.toNatClampNeg)
theorem zmX10_isGrounded : zmV yX10_isGrounded RX10 cX10_isGrounded 2 (some .boolean) 1 := ⟨m_1436, m_1437, m_9, m_1438, rfl, by decide, by decide, by decide +kernel⟩
set_option maxRecDepth 100000 in
set_option maxHeartbeats 4000000 in
theorem ctX10_isGrounded (l : Launch) (D : va_G) (cy : Nat → ClassId) (ad : Nat → Nat → Nat) (μ : zS) (hj : zinj ad zsM) (w1 : Int32) (hV : yV μ) : Met l yX10_isGrounded (zw yX10_isGrounded cX10_isGrounded 2 (some .boolean)) (zrm 3) (va_Pc [.ref (ad 30 0), .int w1] (zB D cy (zW D cy ad zsM μ))) (zqM (some (.int (bI (r_X10_isGrounded μ w1)))) (zW D cy ad zsM (f_X10_isGrounded μ w1)) (zrg ad zsM)) 0 0 (zrg ad zsM) := by
  refine zmet (by decide) rfl (Nat.le_of_ble_eq_true rfl) rfl (fun p e s m below meth c ls X hml hr hlocks hv hl => ?_)
  obtain ⟨hK, hW⟩ := hv
  obtain ⟨hx, hb, -, -⟩ := id X
  have hl : lv_has ls 2 [(0, .ref (ad 30 0)), (1, .int w1)] := hl
  have hS : va_S (zrg ad zsM) s.heap s.heap [] := va_S.rf
  generalize hAe : zrg ad zsM = A at hS ⊢
  have hA : ∀ q, zrg ad zsM q → A q := fun q h => by rw [← hAe]; exact h
  refine lv_aload_n hx hb dX10_isGrounded_0 rfl (lv_at hl 0 rfl) ?_
  refine lv_iload_n hx hb dX10_isGrounded_1 rfl (lv_at hl 1 rfl) ?_
  refine zcallRV (As := [.int w1]) (rest := []) X hml hK hW (ctX10_isCanopy l D cy ad μ w1) zmX10_isCanopy (by decide) m_1294 (zrecv hK (hW 30 0 rfl (by decide)) rfl) ⟨Nat.le_of_ble_eq_true rfl, Nat.le_of_ble_eq_true rfl⟩ ⟨Nat.zero_le _, Nat.zero_le _⟩ rfl hl.1 rfl (Nat.le_of_ble_eq_true rfl) dX10_isGrounded_2 ?_
  refine zb_eq (tgt := 20) hx hb dX10_isGrounded_5 (by decide) (fun b1 => ?_) (fun b1 => ?_)
  · refine lv_aload_n hx hb dX10_isGrounded_20 rfl (lv_at hl 0 rfl) ?_
    refine lv_iconst (v := 1) hx hb dX10_isGrounded_21 (by decide) ?_
    refine zcallMV (As := [.int 1]) (rest := []) X hml hK hW (ctX10_refuses l D cy ad μ hj 1) zmX10_refuses (by decide) m_1346 (zrecv hK (hW 30 0 rfl (by decide)) rfl) ⟨Nat.le_of_ble_eq_true rfl, Nat.le_of_ble_eq_true rfl⟩ ⟨Nat.zero_le _, Nat.zero_le _⟩ rfl hl.1 rfl (Nat.le_of_ble_eq_true rfl) dX10_isGrounded_22 hS hA (fun H locs hW hsz hfr hS => ?_)
    exact zm_z hx hb hr hlocks (by rw [r_X10_isGrounded, if_pos b1]) (by rw [f_X10_isGrounded, if_pos b1]; exact hW) hS dX10_isGrounded_25
  · refine lv_aload_n hx hb dX10_isGrounded_8 rfl (lv_at hl 0 rfl) ?_
    refine lv_aload_n hx hb dX10_isGrounded_9 rfl (lv_at hl 0 rfl) ?_
    refine lv_iload_n hx hb dX10_isGrounded_10 rfl (lv_at hl 1 rfl) ?_
    refine zcallRV (As := [.int w1]) (rest := [.ref (ad 30 0)]) X hml hK hW (ctX10_isHeldDown_x l D cy ad μ w1 (yhas_in hV.1.2.1 (by decide) b1) hV) zmX10_isHeldDown (by decide) m_1398 (zrecv hK (hW 30 0 rfl (by decide)) rfl) ⟨Nat.le_of_ble_eq_true rfl, Nat.le_of_ble_eq_true rfl⟩ ⟨Nat.zero_le _, Nat.zero_le _⟩ rfl hl.1 rfl (Nat.le_of_ble_eq_true rfl) dX10_isGrounded_11 ?_
    refine zcallMV (As := [.int (bI (y_down μ w1.toNatClampNeg))]) (rest := []) X hml hK hW (ctX10_tells l D cy ad μ hj (y_down μ w1.toNatClampNeg)) zmX10_tells (by decide) m_1350 (zrecv hK (hW 30 0 rfl (by decide)) rfl) ⟨Nat.le_of_ble_eq_true rfl, Nat.le_of_ble_eq_true rfl⟩ ⟨Nat.zero_le _, Nat.zero_le _⟩ rfl hl.1 rfl (Nat.le_of_ble_eq_true rfl) dX10_isGrounded_14 hS hA (fun H locs hW hsz hfr hS => ?_)
    refine lv_goto (tgt := 25) hx hb dX10_isGrounded_17 (by decide) ?_
    exact zm_z hx hb hr hlocks (by rw [r_X10_isGrounded, if_neg (by simp [b1])]) (by rw [f_X10_isGrounded, if_neg (by simp [b1])]; exact hW) hS dX10_isGrounded_25
def f_X10_isOut (μ : zS) (w1 : Int32) : zS := if y_has μ 840 w1 = false then (f_X10_refuses μ 1) else (f_X10_tells μ (y_old μ w1.toNatClampNeg))
def r_X10_isOut (μ : zS) (w1 : Int32) : Bool := if y_has μ 840 w1 = false then r_X10_refuses μ 1 else r_X10_tells μ (y_old μ w1.toNatClampNeg)
theorem zmX10_isOut : zmV yX10_isOut RX10 cX10_isOut 2 (some .boolean) 1 := ⟨m_1440, m_1441, m_9, m_1442, rfl, by decide, by decide, by decide +kernel⟩
set_option maxRecDepth 100000 in
set_option maxHeartbeats 4000000 in
theorem ctX10_isOut (l : Launch) (D : va_G) (cy : Nat → ClassId) (ad : Nat → Nat → Nat) (μ : zS) (hj : zinj ad zsM) (w1 : Int32) (hV : yV μ) : Met l yX10_isOut (zw yX10_isOut cX10_isOut 2 (some .boolean)) (zrm 2) (va_Pc [.ref (ad 30 0), .int w1] (zB D cy (zW D cy ad zsM μ))) (zqM (some (.int (bI (r_X10_isOut μ w1)))) (zW D cy ad zsM (f_X10_isOut μ w1)) (zrg ad zsM)) 0 0 (zrg ad zsM) := by
  refine zmet (by decide) rfl (Nat.le_of_ble_eq_true rfl) rfl (fun p e s m below meth c ls X hml hr hlocks hv hl => ?_)
  obtain ⟨hK, hW⟩ := hv
  obtain ⟨hx, hb, -, -⟩ := id X
  have hl : lv_has ls 2 [(0, .ref (ad 30 0)), (1, .int w1)] := hl
  have hS : va_S (zrg ad zsM) s.heap s.heap [] := va_S.rf
  generalize hAe : zrg ad zsM = A at hS ⊢
  have hA : ∀ q, zrg ad zsM q → A q := fun q h => by rw [← hAe]; exact h
  refine lv_aload_n hx hb dX10_isOut_0 rfl (lv_at hl 0 rfl) ?_
  refine lv_iload_n hx hb dX10_isOut_1 rfl (lv_at hl 1 rfl) ?_
  refine zcallRV (As := [.int w1]) (rest := []) X hml hK hW (ctX10_isCanopy l D cy ad μ w1) zmX10_isCanopy (by decide) m_1294 (zrecv hK (hW 30 0 rfl (by decide)) rfl) ⟨Nat.le_of_ble_eq_true rfl, Nat.le_of_ble_eq_true rfl⟩ ⟨Nat.zero_le _, Nat.zero_le _⟩ rfl hl.1 rfl (Nat.le_of_ble_eq_true rfl) dX10_isOut_2 ?_
  refine zb_eq (tgt := 20) hx hb dX10_isOut_5 (by decide) (fun b1 => ?_) (fun b1 => ?_)
  · refine lv_aload_n hx hb dX10_isOut_20 rfl (lv_at hl 0 rfl) ?_
    refine lv_iconst (v := 1) hx hb dX10_isOut_21 (by decide) ?_
    refine zcallMV (As := [.int 1]) (rest := []) X hml hK hW (ctX10_refuses l D cy ad μ hj 1) zmX10_refuses (by decide) m_1346 (zrecv hK (hW 30 0 rfl (by decide)) rfl) ⟨Nat.le_of_ble_eq_true rfl, Nat.le_of_ble_eq_true rfl⟩ ⟨Nat.zero_le _, Nat.zero_le _⟩ rfl hl.1 rfl (Nat.le_of_ble_eq_true rfl) dX10_isOut_22 hS hA (fun H locs hW hsz hfr hS => ?_)
    exact zm_z hx hb hr hlocks (by rw [r_X10_isOut, if_pos b1]) (by rw [f_X10_isOut, if_pos b1]; exact hW) hS dX10_isOut_25
  · refine lv_aload_n hx hb dX10_isOut_8 rfl (lv_at hl 0 rfl) ?_
    refine lv_aload_n hx hb dX10_isOut_9 rfl (lv_at hl 0 rfl) ?_
    refine lv_iload_n hx hb dX10_isOut_10 rfl (lv_at hl 1 rfl) ?_
    refine zcallRV (As := [.int w1]) (rest := [.ref (ad 30 0)]) X hml hK hW (ctX10_isOld_x l D cy ad μ w1 (yhas_in hV.1.2.1 (by decide) b1) hV) zmX10_isOld (by decide) m_1402 (zrecv hK (hW 30 0 rfl (by decide)) rfl) ⟨Nat.le_of_ble_eq_true rfl, Nat.le_of_ble_eq_true rfl⟩ ⟨Nat.zero_le _, Nat.zero_le _⟩ rfl hl.1 rfl (Nat.le_of_ble_eq_true rfl) dX10_isOut_11 ?_
    refine zcallMV (As := [.int (bI (y_old μ w1.toNatClampNeg))]) (rest := []) X hml hK hW (ctX10_tells l D cy ad μ hj (y_old μ w1.toNatClampNeg)) zmX10_tells (by decide) m_1350 (zrecv hK (hW 30 0 rfl (by decide)) rfl) ⟨Nat.le_of_ble_eq_true rfl, Nat.le_of_ble_eq_true rfl⟩ ⟨Nat.zero_le _, Nat.zero_le _⟩ rfl hl.1 rfl (Nat.le_of_ble_eq_true rfl) dX10_isOut_14 hS hA (fun H locs hW hsz hfr hS => ?_)
    refine lv_goto (tgt := 25) hx hb dX10_isOut_17 (by decide) ?_
    exact zm_z hx hb hr hlocks (by rw [r_X10_isOut, if_neg (by simp [b1])]) (by rw [f_X10_isOut, if_neg (by simp [b1])]; exact hW) hS dX10_isOut_25
def f_X10_jumps (μ : zS) (w1 : Int32) : zS := if y_has μ 840 w1 = false then (f_X10_fails μ 1) else (f_X10_tell μ (zA μ 42 0 w1.toNatClampNeg))
def r_X10_jumps (μ : zS) (w1 : Int32) : Int32 := if y_has μ 840 w1 = false then r_X10_fails μ 1 else r_X10_tell μ (zA μ 42 0 w1.toNatClampNeg)
theorem zmX10_jumps : zmV yX10_jumps RX10 cX10_jumps 2 (some .int) 1 := ⟨m_1456, m_1457, m_9, m_1458, rfl, by decide, by decide, by decide +kernel⟩
set_option maxRecDepth 100000 in
set_option maxHeartbeats 4000000 in
theorem ctX10_jumps (l : Launch) (D : va_G) (cy : Nat → ClassId) (ad : Nat → Nat → Nat) (μ : zS) (hj : zinj ad zsM) (w1 : Int32) (hV : yV μ) : Met l yX10_jumps (zw yX10_jumps cX10_jumps 2 (some .int)) (zrm 2) (va_Pc [.ref (ad 30 0), .int w1] (zB D cy (zW D cy ad zsM μ))) (zqM (some (.int (r_X10_jumps μ w1))) (zW D cy ad zsM (f_X10_jumps μ w1)) (zrg ad zsM)) 0 0 (zrg ad zsM) := by
  refine zmet (by decide) rfl (Nat.le_of_ble_eq_true rfl) rfl (fun p e s m below meth c ls X hml hr hlocks hv hl => ?_)
  obtain ⟨hK, hW⟩ := hv
  obtain ⟨hx, hb, -, -⟩ := id X
  have hl : lv_has ls 2 [(0, .ref (ad 30 0)), (1, .int w1)] := hl
  have hS : va_S (zrg ad zsM) s.heap s.heap [] := va_S.rf
  generalize hAe : zrg ad zsM = A at hS ⊢
  have hA : ∀ q, zrg ad zsM q → A q := fun q h => by rw [← hAe]; exact h
  refine lv_aload_n hx hb dX10_jumps_0 rfl (lv_at hl 0 rfl) ?_
  refine lv_iload_n hx hb dX10_jumps_1 rfl (lv_at hl 1 rfl) ?_
  refine zcallRV (As := [.int w1]) (rest := []) X hml hK hW (ctX10_isCanopy l D cy ad μ w1) zmX10_isCanopy (by decide) m_1294 (zrecv hK (hW 30 0 rfl (by decide)) rfl) ⟨Nat.le_of_ble_eq_true rfl, Nat.le_of_ble_eq_true rfl⟩ ⟨Nat.zero_le _, Nat.zero_le _⟩ rfl hl.1 rfl (Nat.le_of_ble_eq_true rfl) dX10_jumps_2 ?_
  refine zb_eq (tgt := 21) hx hb dX10_jumps_5 (by decide) (fun b1 => ?_) (fun b1 => ?_)
  · refine lv_aload_n hx hb dX10_jumps_21 rfl (lv_at hl 0 rfl) ?_
    refine lv_iconst (v := 1) hx hb dX10_jumps_22 (by decide) ?_
    refine zcallMV (As := [.int 1]) (rest := []) X hml hK hW (ctX10_fails l D cy ad μ hj 1) zmX10_fails (by decide) m_1262 (zrecv hK (hW 30 0 rfl (by decide)) rfl) ⟨Nat.le_of_ble_eq_true rfl, Nat.le_of_ble_eq_true rfl⟩ ⟨Nat.zero_le _, Nat.zero_le _⟩ rfl hl.1 rfl (Nat.le_of_ble_eq_true rfl) dX10_jumps_23 hS hA (fun H locs hW hsz hfr hS => ?_)
    exact zm_i hx hb hr hlocks (by rw [r_X10_jumps, if_pos b1]) (by rw [f_X10_jumps, if_pos b1]; exact hW) hS dX10_jumps_26
  · refine lv_aload_n hx hb dX10_jumps_8 rfl (lv_at hl 0 rfl) ?_
    refine lv_aload_n hx hb dX10_jumps_9 rfl (lv_at hl 0 rfl) ?_
    refine zg8_11 X hK hW m_1117 dX10_jumps_10 ?_
    refine lv_iload_n hx hb dX10_jumps_13 rfl (lv_at hl 1 rfl) ?_
    refine za42 X hK hW (yhas_in hV.1.2.1 (by decide) b1) dX10_jumps_14 ?_
    refine zcallMV (As := [.int (zA μ 42 0 w1.toNatClampNeg)]) (rest := []) X hml hK hW (ctX10_tell l D cy ad μ hj (zA μ 42 0 w1.toNatClampNeg)) zmX10_tell (by decide) m_1266 (zrecv hK (hW 30 0 rfl (by decide)) rfl) ⟨Nat.le_of_ble_eq_true rfl, Nat.le_of_ble_eq_true rfl⟩ ⟨Nat.zero_le _, Nat.zero_le _⟩ rfl hl.1 rfl (Nat.le_of_ble_eq_true rfl) dX10_jumps_15 hS hA (fun H locs hW hsz hfr hS => ?_)
    refine lv_goto (tgt := 26) hx hb dX10_jumps_18 (by decide) ?_
    exact zm_i hx hb hr hlocks (by rw [r_X10_jumps, if_neg (by simp [b1])]) (by rw [f_X10_jumps, if_neg (by simp [b1])]; exact hW) hS dX10_jumps_26
def f_X10_packings (μ : zS) (w1 : Int32) : zS := if y_has μ 840 w1 = false then (f_X10_fails μ 1) else (f_X10_tell μ (nI (y_pks μ w1)))
def r_X10_packings (μ : zS) (w1 : Int32) : Int32 := if y_has μ 840 w1 = false then r_X10_fails μ 1 else r_X10_tell μ (nI (y_pks μ w1))
theorem zmX10_packings : zmV yX10_packings RX10 cX10_packings 2 (some .int) 1 := ⟨m_1444, m_1445, m_9, m_1446, rfl, by decide, by decide, by decide +kernel⟩
set_option maxRecDepth 100000 in
set_option maxHeartbeats 4000000 in
theorem ctX10_packings (l : Launch) (D : va_G) (cy : Nat → ClassId) (ad : Nat → Nat → Nat) (μ : zS) (hj : zinj ad zsM) (w1 : Int32) (hV : yV μ) : Met l yX10_packings (zw yX10_packings cX10_packings 2 (some .int)) (zrm 2) (va_Pc [.ref (ad 30 0), .int w1] (zB D cy (zW D cy ad zsM μ))) (zqM (some (.int (r_X10_packings μ w1))) (zW D cy ad zsM (f_X10_packings μ w1)) (zrg ad zsM)) 0 0 (zrg ad zsM) := by
  refine zmet (by decide) rfl (Nat.le_of_ble_eq_true rfl) rfl (fun p e s m below meth c ls X hml hr hlocks hv hl => ?_)
  obtain ⟨hK, hW⟩ := hv
  obtain ⟨hx, hb, -, -⟩ := id X
  have hl : lv_has ls 2 [(0, .ref (ad 30 0)), (1, .int w1)] := hl
  have hS : va_S (zrg ad zsM) s.heap s.heap [] := va_S.rf
  generalize hAe : zrg ad zsM = A at hS ⊢
  have hA : ∀ q, zrg ad zsM q → A q := fun q h => by rw [← hAe]; exact h
  refine lv_aload_n hx hb dX10_packings_0 rfl (lv_at hl 0 rfl) ?_
  refine lv_iload_n hx hb dX10_packings_1 rfl (lv_at hl 1 rfl) ?_
  refine zcallRV (As := [.int w1]) (rest := []) X hml hK hW (ctX10_isCanopy l D cy ad μ w1) zmX10_isCanopy (by decide) m_1294 (zrecv hK (hW 30 0 rfl (by decide)) rfl) ⟨Nat.le_of_ble_eq_true rfl, Nat.le_of_ble_eq_true rfl⟩ ⟨Nat.zero_le _, Nat.zero_le _⟩ rfl hl.1 rfl (Nat.le_of_ble_eq_true rfl) dX10_packings_2 ?_
  refine zb_eq (tgt := 20) hx hb dX10_packings_5 (by decide) (fun b1 => ?_) (fun b1 => ?_)
  · refine lv_aload_n hx hb dX10_packings_20 rfl (lv_at hl 0 rfl) ?_
    refine lv_iconst (v := 1) hx hb dX10_packings_21 (by decide) ?_
    refine zcallMV (As := [.int 1]) (rest := []) X hml hK hW (ctX10_fails l D cy ad μ hj 1) zmX10_fails (by decide) m_1262 (zrecv hK (hW 30 0 rfl (by decide)) rfl) ⟨Nat.le_of_ble_eq_true rfl, Nat.le_of_ble_eq_true rfl⟩ ⟨Nat.zero_le _, Nat.zero_le _⟩ rfl hl.1 rfl (Nat.le_of_ble_eq_true rfl) dX10_packings_22 hS hA (fun H locs hW hsz hfr hS => ?_)
    exact zm_i hx hb hr hlocks (by rw [r_X10_packings, if_pos b1]) (by rw [f_X10_packings, if_pos b1]; exact hW) hS dX10_packings_25
  · refine lv_aload_n hx hb dX10_packings_8 rfl (lv_at hl 0 rfl) ?_
    refine lv_aload_n hx hb dX10_packings_9 rfl (lv_at hl 0 rfl) ?_
    refine lv_iload_n hx hb dX10_packings_10 rfl (lv_at hl 1 rfl) ?_
    refine zcallRV (As := [.int w1]) (rest := [.ref (ad 30 0)]) X hml hK hW (ctX10_packsOf l D cy ad μ w1 hV.1.2.2.1) zmX10_packsOf (by decide) m_1447 (zrecv hK (hW 30 0 rfl (by decide)) rfl) ⟨Nat.le_of_ble_eq_true rfl, Nat.le_of_ble_eq_true rfl⟩ ⟨Nat.zero_le _, Nat.zero_le _⟩ rfl hl.1 rfl (Nat.le_of_ble_eq_true rfl) dX10_packings_11 ?_
    refine zcallMV (As := [.int (nI (y_pks μ w1))]) (rest := []) X hml hK hW (ctX10_tell l D cy ad μ hj (nI (y_pks μ w1))) zmX10_tell (by decide) m_1266 (zrecv hK (hW 30 0 rfl (by decide)) rfl) ⟨Nat.le_of_ble_eq_true rfl, Nat.le_of_ble_eq_true rfl⟩ ⟨Nat.zero_le _, Nat.zero_le _⟩ rfl hl.1 rfl (Nat.le_of_ble_eq_true rfl) dX10_packings_14 hS hA (fun H locs hW hsz hfr hS => ?_)
    refine lv_goto (tgt := 25) hx hb dX10_packings_17 (by decide) ?_
    exact zm_i hx hb hr hlocks (by rw [r_X10_packings, if_neg (by simp [b1])]) (by rw [f_X10_packings, if_neg (by simp [b1])]; exact hW) hS dX10_packings_25
theorem ctX10_reaches_x (l : Launch) (D : va_G) (cy : Nat → ClassId) (ad : Nat → Nat → Nat) (μ : zS) (x : Int32) (u : Nat) (hu : u < 24) (hx : vp_in x 12) (hV : yV μ) (hf : x.toNatClampNeg < zn μ 843) : Met l yX10_reaches (zw yX10_reaches cX10_reaches 6 (some .boolean)) (zrm 1) (va_Pc [.ref (ad 30 0), .int x, .int (nI u)] (zB D cy (zW D cy ad zsM μ))) (zqR (.int (bI (y_reach μ x.toNatClampNeg u)))) 0 0 (fun _ => False) := by
  obtain ⟨j, hj, rfl⟩ := vp_in_of hx (by decide)
  rw [nI_clamp (by omega)] at hf ⊢
  exact ctX10_reaches l D cy ad μ j hj u hu hV.1.2.2.1 (hV.2.1 j hf).1 (hV.2.1 j hf).2
theorem ctX10_isFree_x (l : Launch) (D : va_G) (cy : Nat → ClassId) (ad : Nat → Nat → Nat) (μ : zS) (x : Int32) (u : Nat) (hu : u < 24) (hx : vp_in x 12) : Met l yX10_isFree (zw yX10_isFree cX10_isFree 4 (some .boolean)) (zrm 0) (va_Pc [.ref (ad 30 0), .int x, .int (nI u)] (zB D cy (zW D cy ad zsM μ))) (zqR (.int (bI (y_free μ x.toNatClampNeg u)))) 0 0 (fun _ => False) := by
  obtain ⟨j, hj, rfl⟩ := vp_in_of hx (by decide)
  rw [nI_clamp (by omega)]
  exact ctX10_isFree l D cy ad μ j hj u hu
def f_X10_grounds (μ : zS) (w1 : Int32) : zS := zpI μ 838 0 (if y_has μ 843 w1 = true then 0 else 1)
def r_X10_grounds (μ : zS) (w1 : Int32) : Int32 := if y_has μ 843 w1 = true then nI (y_cntG μ w1.toNatClampNeg) else 0
theorem zmX10_grounds : zmV yX10_grounds RX10 cX10_grounds 4 (some .int) 1 := ⟨m_1355, m_1356, m_9, m_1357, rfl, by decide, by decide, by decide +kernel⟩
set_option maxRecDepth 100000 in
set_option maxHeartbeats 4000000 in
theorem ctX10_grounds (l : Launch) (D : va_G) (cy : Nat → ClassId) (ad : Nat → Nat → Nat) (μ : zS) (hj : zinj ad zsM) (w1 : Int32) (hV : yV μ) : Met l yX10_grounds (zw yX10_grounds cX10_grounds 4 (some .int)) (zrm 2) (va_Pc [.ref (ad 30 0), .int w1] (zB D cy (zW D cy ad zsM μ))) (zqM (some (.int (r_X10_grounds μ w1))) (zW D cy ad zsM (f_X10_grounds μ w1)) (zrg ad zsM)) 0 0 (zrg ad zsM) := by
  refine zmet (by decide) rfl (Nat.le_of_ble_eq_true rfl) rfl (fun p e s m below meth c ls X hml hr hlocks hv hl => ?_)
  obtain ⟨hK, hW⟩ := hv
  obtain ⟨hx, hb, -, -⟩ := id X
  have hl : lv_has ls 4 [(0, .ref (ad 30 0)), (1, .int w1)] := hl
  have hS : va_S (zrg ad zsM) s.heap s.heap [] := va_S.rf
  generalize hAe : zrg ad zsM = A at hS ⊢
  have hA : ∀ q, zrg ad zsM q → A q := fun q h => by rw [← hAe]; exact h
  refine lv_aload_n hx hb dX10_grounds_0 rfl (lv_at hl 0 rfl) ?_
  refine lv_iload_n hx hb dX10_grounds_1 rfl (lv_at hl 1 rfl) ?_
  refine zcallRV (As := [.int w1]) (rest := []) X hml hK hW (ctX10_isFinding l D cy ad μ w1) zmX10_isFinding (by decide) m_1334 (zrecv hK (hW 30 0 rfl (by decide)) rfl) ⟨Nat.le_of_ble_eq_true rfl, Nat.le_of_ble_eq_true rfl⟩ ⟨Nat.zero_le _, Nat.zero_le _⟩ rfl hl.1 rfl (Nat.le_of_ble_eq_true rfl) dX10_grounds_2 ?_
  refine zb_ne (tgt := 14) hx hb dX10_grounds_5 (by decide) (fun b1 => ?_) (fun b1 => ?_)
  · refine lv_iconst (v := 0) hx hb dX10_grounds_14 (by decide) ?_
    refine lv_istore_n (lv' := [(2, .int 0), (0, .ref (ad 30 0)), (1, .int w1)]) hx hb dX10_grounds_15 rfl hl (by decide) rfl (fun ls hl => ?_)
    refine lv_iconst (v := 0) hx hb dX10_grounds_16 (by decide) ?_
    refine lv_istore_n (lv' := [(3, .int 0), (2, .int 0), (0, .ref (ad 30 0)), (1, .int w1)]) hx hb dX10_grounds_17 rfl hl (by decide) rfl (fun ls hl => ?_)
    have loop18 : ∀ (n : Nat) (k : Nat) (a : Int32) (ls : Array Slot), lv_has ls 4 [(0, .ref (ad 30 0)), (1, .int w1), (2, .int a), (3, .int (nI k))] → zn μ 840 + 1 - k < n → (k ≤ zn μ 840) → (a = nI (zct (fun u => y_reach μ w1.toNatClampNeg u && !y_free μ w1.toNatClampNeg u) k)) → W p l e (zrm 2) s m ([.ref (ad 30 0), .int w1] : List Value).toArray below meth c s.heap [] 0 0 (MQ below (zqM (some (.int (r_X10_grounds μ w1))) (zW D cy ad zsM (f_X10_grounds μ w1)) A) ([.ref (ad 30 0), .int w1] : List Value).toArray s 0 0 A) (F0 m 18 ls []) := by
      intro n
      induction n with
      | zero => intro k a ls hl hm hk ha; exact absurd hm (Nat.not_lt_zero _)
      | succ n ih18 =>
        intro k a ls hl hm hk ha
        refine lv_iload_n hx hb dX10_grounds_18 rfl (lv_at hl 3 rfl) ?_
        refine lv_aload_n hx hb dX10_grounds_19 rfl (lv_at hl 0 rfl) ?_
        refine zg8_40 X hK hW m_1146 dX10_grounds_20 ?_
        refine lv_icmp_ge (tgt := 58) hx hb dX10_grounds_23 (by decide) (fun b2 => ?_) (fun b2 => ?_)
        · refine lv_aload_n hx hb dX10_grounds_58 rfl (lv_at hl 0 rfl) ?_
          refine lv_iload_n hx hb dX10_grounds_59 rfl (lv_at hl 2 rfl) ?_
          refine zcallMV (As := [.int a]) (rest := []) X hml hK hW (ctX10_tell l D cy ad μ hj a) zmX10_tell (by decide) m_1266 (zrecv hK (hW 30 0 rfl (by decide)) rfl) ⟨Nat.le_of_ble_eq_true rfl, Nat.le_of_ble_eq_true rfl⟩ ⟨Nat.zero_le _, Nat.zero_le _⟩ rfl hl.1 rfl (Nat.le_of_ble_eq_true rfl) dX10_grounds_60 hS hA (fun H locs hW hsz hfr hS => ?_)
          exact zm_i hx hb hr hlocks (by rw [r_X10_grounds, if_pos b1]; show a = _; rw [ha, zge_of hV.1.2.1 (by decide) hk b2]; rfl) (by rw [f_X10_grounds, if_pos b1]; exact hW) hS dX10_grounds_63
        · have hlt : k < zn μ 840 := zlt_of hV.1.2.1 (by decide) hk b2
          have hltN := Nat.lt_of_lt_of_le hlt hV.1.2.1.2
          refine lv_iload_n hx hb dX10_grounds_26 rfl (lv_at hl 2 rfl) ?_
          refine lv_aload_n hx hb dX10_grounds_27 rfl (lv_at hl 0 rfl) ?_
          refine lv_iload_n hx hb dX10_grounds_28 rfl (lv_at hl 1 rfl) ?_
          refine lv_iload_n hx hb dX10_grounds_29 rfl (lv_at hl 3 rfl) ?_
          refine zcallRV (As := [.int w1, .int (nI k)]) (rest := [.int a]) X hml hK hW (ctX10_reaches_x l D cy ad μ w1 k (by omega) (yhas_in hV.1.2.2.2.2 (by decide) b1) hV (yhas_n hV.1.2.2.2.2 (by decide) b1)) zmX10_reaches (by decide) m_1358 (zrecv hK (hW 30 0 rfl (by decide)) rfl) ⟨Nat.le_of_ble_eq_true rfl, Nat.le_of_ble_eq_true rfl⟩ ⟨Nat.zero_le _, Nat.zero_le _⟩ rfl hl.1 rfl (Nat.le_of_ble_eq_true rfl) dX10_grounds_30 ?_
          refine zb_eq (tgt := 49) hx hb dX10_grounds_33 (by decide) (fun b3 => ?_) (fun b3 => ?_)
          · refine lv_iconst (v := 0) hx hb dX10_grounds_49 (by decide) ?_
            refine lv_iadd hx hb dX10_grounds_50 ?_
            refine lv_istore_n (lv' := [(2, .int (a + 0)), (0, .ref (ad 30 0)), (1, .int w1), (3, .int (nI k))]) hx hb dX10_grounds_51 rfl hl (by decide) rfl (fun ls hl => ?_)
            refine lv_iinc (v := nI (k + 1)) (lv' := [(3, .int (nI (k + 1))), (2, .int (a + 0)), (0, .ref (ad 30 0)), (1, .int w1)]) hx hb dX10_grounds_52 hl (k := 3) rfl (nI_1 k) (by decide) rfl (fun ls hl => ?_)
            refine lv_goto (tgt := 18) hx hb dX10_grounds_55 (by decide) ?_
            exact ih18 (k + 1) (a + 0) _ (lv_sub hl [2, 3, 1, 0] rfl) (by omega) hlt (by rw [ha, zct, if_neg (by simp [b1, b2, Int32.not_le.mp b2, b3]), Nat.add_zero]; exact Int32.add_zero _)
          · refine lv_aload_n hx hb dX10_grounds_36 rfl (lv_at hl 0 rfl) ?_
            refine lv_iload_n hx hb dX10_grounds_37 rfl (lv_at hl 1 rfl) ?_
            refine lv_iload_n hx hb dX10_grounds_38 rfl (lv_at hl 3 rfl) ?_
            refine zcallRV (As := [.int w1, .int (nI k)]) (rest := [.int a]) X hml hK hW (ctX10_isFree_x l D cy ad μ w1 k (by omega) (yhas_in hV.1.2.2.2.2 (by decide) b1)) zmX10_isFree (by decide) m_1370 (zrecv hK (hW 30 0 rfl (by decide)) rfl) ⟨Nat.le_of_ble_eq_true rfl, Nat.le_of_ble_eq_true rfl⟩ ⟨Nat.zero_le _, Nat.zero_le _⟩ rfl hl.1 rfl (Nat.le_of_ble_eq_true rfl) dX10_grounds_39 ?_
            refine zb_ne (tgt := 49) hx hb dX10_grounds_42 (by decide) (fun b4 => ?_) (fun b4 => ?_)
            · refine lv_iconst (v := 0) hx hb dX10_grounds_49 (by decide) ?_
              refine lv_iadd hx hb dX10_grounds_50 ?_
              refine lv_istore_n (lv' := [(2, .int (a + 0)), (0, .ref (ad 30 0)), (1, .int w1), (3, .int (nI k))]) hx hb dX10_grounds_51 rfl hl (by decide) rfl (fun ls hl => ?_)
              refine lv_iinc (v := nI (k + 1)) (lv' := [(3, .int (nI (k + 1))), (2, .int (a + 0)), (0, .ref (ad 30 0)), (1, .int w1)]) hx hb dX10_grounds_52 hl (k := 3) rfl (nI_1 k) (by decide) rfl (fun ls hl => ?_)
              refine lv_goto (tgt := 18) hx hb dX10_grounds_55 (by decide) ?_
              exact ih18 (k + 1) (a + 0) _ (lv_sub hl [2, 3, 1, 0] rfl) (by omega) hlt (by rw [ha, zct, if_neg (by simp [b1, b2, Int32.not_le.mp b2, b3, b4]), Nat.add_zero]; exact Int32.add_zero _)
            · refine lv_iconst (v := 1) hx hb dX10_grounds_45 (by decide) ?_
              refine lv_goto (tgt := 50) hx hb dX10_grounds_46 (by decide) ?_
              refine lv_iadd hx hb dX10_grounds_50 ?_
              refine lv_istore_n (lv' := [(2, .int (a + 1)), (0, .ref (ad 30 0)), (1, .int w1), (3, .int (nI k))]) hx hb dX10_grounds_51 rfl hl (by decide) rfl (fun ls hl => ?_)
              refine lv_iinc (v := nI (k + 1)) (lv' := [(3, .int (nI (k + 1))), (2, .int (a + 1)), (0, .ref (ad 30 0)), (1, .int w1)]) hx hb dX10_grounds_52 hl (k := 3) rfl (nI_1 k) (by decide) rfl (fun ls hl => ?_)
              refine lv_goto (tgt := 18) hx hb dX10_grounds_55 (by decide) ?_
              exact ih18 (k + 1) (a + 1) _ (lv_sub hl [2, 3, 1, 0] rfl) (by omega) hlt (by rw [ha, zct, if_pos (by simp [b1, b2, Int32.not_le.mp b2, b3, b4]), ← nI_1])
    exact loop18 _ 0 0 _ (lv_sub hl [2, 3, 1, 0] rfl) (Nat.lt_succ_self _) (Nat.zero_le _) rfl
  · refine lv_aload_n hx hb dX10_grounds_8 rfl (lv_at hl 0 rfl) ?_
    refine lv_iconst (v := 1) hx hb dX10_grounds_9 (by decide) ?_
    refine zcallMV (As := [.int 1]) (rest := []) X hml hK hW (ctX10_fails l D cy ad μ hj 1) zmX10_fails (by decide) m_1262 (zrecv hK (hW 30 0 rfl (by decide)) rfl) ⟨Nat.le_of_ble_eq_true rfl, Nat.le_of_ble_eq_true rfl⟩ ⟨Nat.zero_le _, Nat.zero_le _⟩ rfl hl.1 rfl (Nat.le_of_ble_eq_true rfl) dX10_grounds_10 hS hA (fun H locs hW hsz hfr hS => ?_)
    exact zm_i hx hb hr hlocks (by rw [r_X10_grounds, if_neg (by simp [b1])]; rfl) (by rw [f_X10_grounds, if_neg (by simp [b1])]; exact hW) hS dX10_grounds_13
def y_held (μ : zS) : Int64 := zsmL (fun c => if zA μ 38 0 c = 104 then (zA μ 53 0 c).toInt64 else 0) (zn μ 840)
theorem zmX10_held : zmV yX10_held RX10 cX10_held 4 (some .long) 0 := ⟨m_1468, m_1469, m_9, m_1470, rfl, by decide, by decide, by decide +kernel⟩
set_option maxRecDepth 100000 in
set_option maxHeartbeats 4000000 in
theorem ctX10_held (l : Launch) (D : va_G) (cy : Nat → ClassId) (ad : Nat → Nat → Nat) (μ : zS) (hj : zinj ad zsM) (hV : yV μ) : Met l yX10_held (zw yX10_held cX10_held 4 (some .long)) (zrm 0) (va_Pc [.ref (ad 30 0)] (zB D cy (zW D cy ad zsM μ))) (zqM (some (.long (y_held μ))) (zW D cy ad zsM (zpI μ 838 0 0)) (zrg ad zsM)) 0 0 (zrg ad zsM) := by
  refine zmet (by decide) rfl (Nat.le_of_ble_eq_true rfl) rfl (fun p e s m below meth c ls X hml hr hlocks hv hl => ?_)
  obtain ⟨hK, hW⟩ := hv
  obtain ⟨hx, hb, -, -⟩ := id X
  have hl : lv_has ls 4 [(0, .ref (ad 30 0))] := hl
  have hS : va_S (zrg ad zsM) s.heap s.heap [] := va_S.rf
  generalize hAe : zrg ad zsM = A at hS ⊢
  have hA : ∀ q, zrg ad zsM q → A q := fun q h => by rw [← hAe]; exact h
  refine lv_lconst (v := 0) hx hb dX10_held_0 rfl ?_
  refine lv_lstore_n (lv' := [(1, .long 0), (0, .ref (ad 30 0))]) hx hb dX10_held_1 rfl hl (by decide) rfl (fun ls hl => ?_)
  refine lv_iconst (v := 0) hx hb dX10_held_2 (by decide) ?_
  refine lv_istore_n (lv' := [(3, .int 0), (1, .long 0), (0, .ref (ad 30 0))]) hx hb dX10_held_3 rfl hl (by decide) rfl (fun ls hl => ?_)
  have loop4 : ∀ (n : Nat) (k : Nat) (a : Int64) (ls : Array Slot), lv_has ls 4 [(0, .ref (ad 30 0)), (1, .long a), (3, .int (nI k))] → zn μ 840 + 1 - k < n → (k ≤ zn μ 840) → (a = zsmL (fun c => if zA μ 38 0 c = 104 then (zA μ 53 0 c).toInt64 else 0) k) → W p l e (zrm 0) s m ([.ref (ad 30 0)] : List Value).toArray below meth c s.heap [] 0 0 (MQ below (zqM (some (.long (y_held μ))) (zW D cy ad zsM (zpI μ 838 0 0)) A) ([.ref (ad 30 0)] : List Value).toArray s 0 0 A) (F0 m 4 ls []) := by
    intro n
    induction n with
    | zero => intro k a ls hl hm hk ha; exact absurd hm (Nat.not_lt_zero _)
    | succ n ih4 =>
      intro k a ls hl hm hk ha
      refine lv_iload_n hx hb dX10_held_4 rfl (lv_at hl 2 rfl) ?_
      refine lv_aload_n hx hb dX10_held_5 rfl (lv_at hl 0 rfl) ?_
      refine zg8_40 X hK hW m_1146 dX10_held_6 ?_
      refine lv_icmp_ge (tgt := 43) hx hb dX10_held_9 (by decide) (fun b1 => ?_) (fun b1 => ?_)
      · refine lv_aload_n hx hb dX10_held_43 rfl (lv_at hl 0 rfl) ?_
        refine lv_iconst (v := 0) hx hb dX10_held_44 (by decide) ?_
        refine zp8_38 X hK hW hj hA hS m_1144 dX10_held_45 (fun H locs hW hS => ?_)
        refine lv_lload_n hx hb dX10_held_48 rfl (lv_at hl 1 rfl) ?_
        exact zm_l hx hb hr hlocks (by rw [ha, zge_of hV.1.2.1 (by decide) hk b1]; rfl) hW hS dX10_held_49
      · have hlt : k < zn μ 840 := zlt_of hV.1.2.1 (by decide) hk b1
        have hltN := Nat.lt_of_lt_of_le hlt hV.1.2.1.2
        refine lv_lload_n hx hb dX10_held_12 rfl (lv_at hl 1 rfl) ?_
        refine lv_aload_n hx hb dX10_held_13 rfl (lv_at hl 0 rfl) ?_
        refine zg8_7 X hK hW m_1113 dX10_held_14 ?_
        refine lv_iload_n hx hb dX10_held_17 rfl (lv_at hl 2 rfl) ?_
        refine zan38 X hK hW (by omega) dX10_held_18 ?_
        refine lv_bipush (v := 104) hx hb dX10_held_19 (by decide) ?_
        refine lv_icmp_ne (tgt := 34) hx hb dX10_held_21 (by decide) (fun b2 => ?_) (fun b2 => ?_)
        · refine lv_lconst (v := 0) hx hb dX10_held_34 rfl ?_
          refine lv_ladd hx hb dX10_held_35 ?_
          refine lv_lstore_n (lv' := [(1, .long (a + 0)), (0, .ref (ad 30 0)), (3, .int (nI k))]) hx hb dX10_held_36 rfl hl (by decide) rfl (fun ls hl => ?_)
          refine lv_iinc (v := nI (k + 1)) (lv' := [(3, .int (nI (k + 1))), (1, .long (a + 0)), (0, .ref (ad 30 0))]) hx hb dX10_held_37 hl (k := 2) rfl (nI_1 k) (by decide) rfl (fun ls hl => ?_)
          refine lv_goto (tgt := 4) hx hb dX10_held_40 (by decide) ?_
          exact ih4 (k + 1) (a + 0) _ (lv_sub hl [2, 1, 0] rfl) (by omega) hlt (by rw [ha, zsmL, if_neg b2])
        · refine lv_aload_n hx hb dX10_held_24 rfl (lv_at hl 0 rfl) ?_
          refine zg8_22 X hK hW m_1128 dX10_held_25 ?_
          refine lv_iload_n hx hb dX10_held_28 rfl (lv_at hl 2 rfl) ?_
          refine zan53 X hK hW (by omega) dX10_held_29 ?_
          refine lv_i2l hx hb dX10_held_30 rfl ?_
          refine lv_goto (tgt := 35) hx hb dX10_held_31 (by decide) ?_
          refine lv_ladd hx hb dX10_held_35 ?_
          refine lv_lstore_n (lv' := [(1, .long (a + ((zA μ 53 0 k).toInt64))), (0, .ref (ad 30 0)), (3, .int (nI k))]) hx hb dX10_held_36 rfl hl (by decide) rfl (fun ls hl => ?_)
          refine lv_iinc (v := nI (k + 1)) (lv' := [(3, .int (nI (k + 1))), (1, .long (a + ((zA μ 53 0 k).toInt64))), (0, .ref (ad 30 0))]) hx hb dX10_held_37 hl (k := 2) rfl (nI_1 k) (by decide) rfl (fun ls hl => ?_)
          refine lv_goto (tgt := 4) hx hb dX10_held_40 (by decide) ?_
          exact ih4 (k + 1) (a + ((zA μ 53 0 k).toInt64)) _ (lv_sub hl [2, 1, 0] rfl) (by omega) hlt (by rw [ha, zsmL, if_pos b2])
  exact loop4 _ 0 0 _ (lv_sub hl [2, 1, 0] rfl) (Nat.lt_succ_self _) (Nat.zero_le _) rfl
def y_next (μ : zS) : Nat → Int32
  | 0 => -1
  | k + 1 => if zA μ 33 0 k = 114 ∧ zA μ 38 0 k = 107 ∧ y_old μ k = false then (if y_next μ k = -1 ∨ zA μ 57 0 (zA μ 41 0 k).toNatClampNeg < zA μ 57 0 (zA μ 41 0 (y_next μ k).toNatClampNeg).toNatClampNeg then nI k else y_next μ k) else y_next μ k
def f_X10_next (μ : zS) : zS := zpI μ 838 0 (if y_next μ (zn μ 840) = -1 then 1 else 0)
def r_X10_next (μ : zS) : Int32 := if y_next μ (zn μ 840) = -1 then 0 else y_next μ (zn μ 840)
theorem zmX10_next : zmV yX10_next RX10 cX10_next 3 (some .int) 0 := ⟨m_1464, m_1465, m_9, m_1466, rfl, by decide, by decide, by decide +kernel⟩
set_option maxRecDepth 100000 in
set_option maxHeartbeats 4000000 in
theorem ctX10_next (l : Launch) (D : va_G) (cy : Nat → ClassId) (ad : Nat → Nat → Nat) (μ : zS) (hj : zinj ad zsM) (hV : yV μ) : Met l yX10_next (zw yX10_next cX10_next 3 (some .int)) (zrm 2) (va_Pc [.ref (ad 30 0)] (zB D cy (zW D cy ad zsM μ))) (zqM (some (.int (r_X10_next μ))) (zW D cy ad zsM (f_X10_next μ)) (zrg ad zsM)) 0 0 (zrg ad zsM) := by
  refine zmet (by decide) rfl (Nat.le_of_ble_eq_true rfl) rfl (fun p e s m below meth c ls X hml hr hlocks hv hl => ?_)
  obtain ⟨hK, hW⟩ := hv
  obtain ⟨hx, hb, -, -⟩ := id X
  have hl : lv_has ls 3 [(0, .ref (ad 30 0))] := hl
  have hS : va_S (zrg ad zsM) s.heap s.heap [] := va_S.rf
  generalize hAe : zrg ad zsM = A at hS ⊢
  have hA : ∀ q, zrg ad zsM q → A q := fun q h => by rw [← hAe]; exact h
  refine lv_iconst (v := (-1)) hx hb dX10_next_0 (by decide) ?_
  refine lv_istore_n (lv' := [(1, .int (-1)), (0, .ref (ad 30 0))]) hx hb dX10_next_1 rfl hl (by decide) rfl (fun ls hl => ?_)
  refine lv_iconst (v := 0) hx hb dX10_next_2 (by decide) ?_
  refine lv_istore_n (lv' := [(2, .int 0), (1, .int (-1)), (0, .ref (ad 30 0))]) hx hb dX10_next_3 rfl hl (by decide) rfl (fun ls hl => ?_)
  have loop4 : ∀ (n : Nat) (k : Nat) (a : Int32) (ls : Array Slot), lv_has ls 3 [(0, .ref (ad 30 0)), (1, .int a), (2, .int (nI k))] → zn μ 840 + 1 - k < n → (k ≤ zn μ 840) → (a = y_next μ k) → (a = -1 ∨ (vp_in a 24 ∧ vp_in (zA μ 41 0 a.toNatClampNeg) 120)) → W p l e (zrm 2) s m ([.ref (ad 30 0)] : List Value).toArray below meth c s.heap [] 0 0 (MQ below (zqM (some (.int (r_X10_next μ))) (zW D cy ad zsM (f_X10_next μ)) A) ([.ref (ad 30 0)] : List Value).toArray s 0 0 A) (F0 m 4 ls []) := by
    intro n
    induction n with
    | zero => intro k a ls hl hm hk ha hz; exact absurd hm (Nat.not_lt_zero _)
    | succ n ih4 =>
      intro k a ls hl hm hk ha hz
      refine lv_iload_n hx hb dX10_next_4 rfl (lv_at hl 2 rfl) ?_
      refine lv_aload_n hx hb dX10_next_5 rfl (lv_at hl 0 rfl) ?_
      refine zg8_40 X hK hW m_1146 dX10_next_6 ?_
      refine lv_icmp_ge (tgt := 83) hx hb dX10_next_9 (by decide) (fun b1 => ?_) (fun b1 => ?_)
      · refine lv_iload_n hx hb dX10_next_83 rfl (lv_at hl 1 rfl) ?_
        refine lv_iconst (v := (-1)) hx hb dX10_next_84 (by decide) ?_
        refine lv_icmp_ne (tgt := 96) hx hb dX10_next_85 (by decide) (fun b2 => ?_) (fun b2 => ?_)
        · refine lv_aload_n hx hb dX10_next_96 rfl (lv_at hl 0 rfl) ?_
          refine lv_iload_n hx hb dX10_next_97 rfl (lv_at hl 1 rfl) ?_
          refine zcallMV (As := [.int a]) (rest := []) X hml hK hW (ctX10_tell l D cy ad μ hj a) zmX10_tell (by decide) m_1266 (zrecv hK (hW 30 0 rfl (by decide)) rfl) ⟨Nat.le_of_ble_eq_true rfl, Nat.le_of_ble_eq_true rfl⟩ ⟨Nat.zero_le _, Nat.zero_le _⟩ rfl hl.1 rfl (Nat.le_of_ble_eq_true rfl) dX10_next_98 hS hA (fun H locs hW hsz hfr hS => ?_)
          exact zm_i hx hb hr hlocks (by rw [r_X10_next, ← zge_of hV.1.2.1 (by decide) hk b1, ← ha, if_neg b2]; rfl) (by rw [f_X10_next, ← zge_of hV.1.2.1 (by decide) hk b1, ← ha, if_neg b2]; exact hW) hS dX10_next_101
        · refine lv_aload_n hx hb dX10_next_88 rfl (lv_at hl 0 rfl) ?_
          refine lv_iconst (v := 1) hx hb dX10_next_89 (by decide) ?_
          refine zcallMV (As := [.int 1]) (rest := []) X hml hK hW (ctX10_fails l D cy ad μ hj 1) zmX10_fails (by decide) m_1262 (zrecv hK (hW 30 0 rfl (by decide)) rfl) ⟨Nat.le_of_ble_eq_true rfl, Nat.le_of_ble_eq_true rfl⟩ ⟨Nat.zero_le _, Nat.zero_le _⟩ rfl hl.1 rfl (Nat.le_of_ble_eq_true rfl) dX10_next_90 hS hA (fun H locs hW hsz hfr hS => ?_)
          refine lv_goto (tgt := 101) hx hb dX10_next_93 (by decide) ?_
          exact zm_i hx hb hr hlocks (by rw [r_X10_next, ← zge_of hV.1.2.1 (by decide) hk b1, ← ha, if_pos b2]; rfl) (by rw [f_X10_next, ← zge_of hV.1.2.1 (by decide) hk b1, ← ha, if_pos b2]; exact hW) hS dX10_next_101
      · have hlt : k < zn μ 840 := zlt_of hV.1.2.1 (by decide) hk b1
        have hltN := Nat.lt_of_lt_of_le hlt hV.1.2.1.2
        have hLk : zA μ 38 0 k = 107 → vp_in (zA μ 41 0 k) 120 := fun h => vp_up (hV.2.2.1 k hltN (by simp [y_ready, h])) (show (86 : Nat) ≤ 120 by decide) (by decide)
        refine lv_aload_n hx hb dX10_next_12 rfl (lv_at hl 0 rfl) ?_
        refine zg8_2 X hK hW m_1108 dX10_next_13 ?_
        refine lv_iload_n hx hb dX10_next_16 rfl (lv_at hl 2 rfl) ?_
        refine zan33 X hK hW (by omega) dX10_next_17 ?_
        refine lv_bipush (v := 114) hx hb dX10_next_18 (by decide) ?_
        refine lv_icmp_ne (tgt := 77) hx hb dX10_next_20 (by decide) (fun b3 => ?_) (fun b3 => ?_)
        · refine lv_iinc (v := nI (k + 1)) (lv' := [(2, .int (nI (k + 1))), (0, .ref (ad 30 0)), (1, .int a)]) hx hb dX10_next_77 hl (k := 2) rfl (nI_1 k) (by decide) rfl (fun ls hl => ?_)
          refine lv_goto (tgt := 4) hx hb dX10_next_80 (by decide) ?_
          exact ih4 (k + 1) a _ (lv_sub hl [1, 2, 0] rfl) (by omega) hlt (by rw [y_next, ← ha]; simp [b1, Int32.not_le.mp b1, b3, Ne.symm b3]) hz
        · refine lv_aload_n hx hb dX10_next_23 rfl (lv_at hl 0 rfl) ?_
          refine zg8_7 X hK hW m_1113 dX10_next_24 ?_
          refine lv_iload_n hx hb dX10_next_27 rfl (lv_at hl 2 rfl) ?_
          refine zan38 X hK hW (by omega) dX10_next_28 ?_
          refine lv_bipush (v := 107) hx hb dX10_next_29 (by decide) ?_
          refine lv_icmp_ne (tgt := 77) hx hb dX10_next_31 (by decide) (fun b4 => ?_) (fun b4 => ?_)
          · refine lv_iinc (v := nI (k + 1)) (lv' := [(2, .int (nI (k + 1))), (0, .ref (ad 30 0)), (1, .int a)]) hx hb dX10_next_77 hl (k := 2) rfl (nI_1 k) (by decide) rfl (fun ls hl => ?_)
            refine lv_goto (tgt := 4) hx hb dX10_next_80 (by decide) ?_
            exact ih4 (k + 1) a _ (lv_sub hl [1, 2, 0] rfl) (by omega) hlt (by rw [y_next, ← ha]; simp [b1, Int32.not_le.mp b1, b3, b4, Ne.symm b4]) hz
          · refine lv_aload_n hx hb dX10_next_34 rfl (lv_at hl 0 rfl) ?_
            refine lv_iload_n hx hb dX10_next_35 rfl (lv_at hl 2 rfl) ?_
            refine zcallRV (As := [.int (nI k)]) (rest := []) X hml hK hW (ctX10_isOld l D cy ad μ k (by omega) (hV.2.2.1 k hltN)) zmX10_isOld (by decide) m_1402 (zrecv hK (hW 30 0 rfl (by decide)) rfl) ⟨Nat.le_of_ble_eq_true rfl, Nat.le_of_ble_eq_true rfl⟩ ⟨Nat.zero_le _, Nat.zero_le _⟩ rfl hl.1 rfl (Nat.le_of_ble_eq_true rfl) dX10_next_36 ?_
            refine zb_eq (tgt := 45) hx hb dX10_next_39 (by decide) (fun b5 => ?_) (fun b5 => ?_)
            · refine lv_iload_n hx hb dX10_next_45 rfl (lv_at hl 1 rfl) ?_
              refine lv_iconst (v := (-1)) hx hb dX10_next_46 (by decide) ?_
              refine lv_icmp_eq (tgt := 75) hx hb dX10_next_47 (by decide) (fun b6 => ?_) (fun b6 => ?_)
              · refine lv_iload_n hx hb dX10_next_75 rfl (lv_at hl 2 rfl) ?_
                refine lv_istore_n (lv' := [(1, .int (nI k)), (0, .ref (ad 30 0)), (2, .int (nI k))]) hx hb dX10_next_76 rfl hl (by decide) rfl (fun ls hl => ?_)
                refine lv_iinc (v := nI (k + 1)) (lv' := [(2, .int (nI (k + 1))), (1, .int (nI k)), (0, .ref (ad 30 0))]) hx hb dX10_next_77 hl (k := 2) rfl (nI_1 k) (by decide) rfl (fun ls hl => ?_)
                refine lv_goto (tgt := 4) hx hb dX10_next_80 (by decide) ?_
                exact ih4 (k + 1) (nI k) _ (lv_sub hl [2, 1, 0] rfl) (by omega) hlt (by rw [y_next, ← ha]; simp [b1, Int32.not_le.mp b1, b3, b4, b5, b6]) (Or.inr ⟨vp_in_nI hltN (by decide), by rw [nI_clamp (by omega)]; exact hLk b4⟩)
              · refine lv_aload_n hx hb dX10_next_50 rfl (lv_at hl 0 rfl) ?_
                refine zg8_26 X hK hW m_1132 dX10_next_51 ?_
                refine lv_aload_n hx hb dX10_next_54 rfl (lv_at hl 0 rfl) ?_
                refine zg8_10 X hK hW m_1116 dX10_next_55 ?_
                refine lv_iload_n hx hb dX10_next_58 rfl (lv_at hl 2 rfl) ?_
                refine zan41 X hK hW (by omega) dX10_next_59 ?_
                refine za57 X hK hW (hLk b4) dX10_next_60 ?_
                refine lv_aload_n hx hb dX10_next_61 rfl (lv_at hl 0 rfl) ?_
                refine zg8_26 X hK hW m_1132 dX10_next_62 ?_
                refine lv_aload_n hx hb dX10_next_65 rfl (lv_at hl 0 rfl) ?_
                refine zg8_10 X hK hW m_1116 dX10_next_66 ?_
                refine lv_iload_n hx hb dX10_next_69 rfl (lv_at hl 1 rfl) ?_
                refine za41 X hK hW (hz.resolve_left b6).1 dX10_next_70 ?_
                refine za57 X hK hW (hz.resolve_left b6).2 dX10_next_71 ?_
                refine lv_icmp_ge (tgt := 77) hx hb dX10_next_72 (by decide) (fun b7 => ?_) (fun b7 => ?_)
                · refine lv_iinc (v := nI (k + 1)) (lv' := [(2, .int (nI (k + 1))), (0, .ref (ad 30 0)), (1, .int a)]) hx hb dX10_next_77 hl (k := 2) rfl (nI_1 k) (by decide) rfl (fun ls hl => ?_)
                  refine lv_goto (tgt := 4) hx hb dX10_next_80 (by decide) ?_
                  exact ih4 (k + 1) a _ (lv_sub hl [1, 2, 0] rfl) (by omega) hlt (by rw [y_next, ← ha]; simp [b1, Int32.not_le.mp b1, b3, b4, b5, b6, Ne.symm b6, b7, Int32.not_lt.mpr b7]) hz
                · refine lv_iload_n hx hb dX10_next_75 rfl (lv_at hl 2 rfl) ?_
                  refine lv_istore_n (lv' := [(1, .int (nI k)), (0, .ref (ad 30 0)), (2, .int (nI k))]) hx hb dX10_next_76 rfl hl (by decide) rfl (fun ls hl => ?_)
                  refine lv_iinc (v := nI (k + 1)) (lv' := [(2, .int (nI (k + 1))), (1, .int (nI k)), (0, .ref (ad 30 0))]) hx hb dX10_next_77 hl (k := 2) rfl (nI_1 k) (by decide) rfl (fun ls hl => ?_)
                  refine lv_goto (tgt := 4) hx hb dX10_next_80 (by decide) ?_
                  exact ih4 (k + 1) (nI k) _ (lv_sub hl [2, 1, 0] rfl) (by omega) hlt (by rw [y_next, ← ha]; simp [b1, Int32.not_le.mp b1, b3, b4, b5, b6, Ne.symm b6, b7, Int32.not_le.mp b7]) (Or.inr ⟨vp_in_nI hltN (by decide), by rw [nI_clamp (by omega)]; exact hLk b4⟩)
            · refine lv_goto (tgt := 77) hx hb dX10_next_42 (by decide) ?_
              refine lv_iinc (v := nI (k + 1)) (lv' := [(2, .int (nI (k + 1))), (0, .ref (ad 30 0)), (1, .int a)]) hx hb dX10_next_77 hl (k := 2) rfl (nI_1 k) (by decide) rfl (fun ls hl => ?_)
              refine lv_goto (tgt := 4) hx hb dX10_next_80 (by decide) ?_
              exact ih4 (k + 1) a _ (lv_sub hl [1, 2, 0] rfl) (by omega) hlt (by rw [y_next, ← ha]; simp [b1, Int32.not_le.mp b1, b3, b4, b5]) hz
  exact loop4 _ 0 (-1) _ (lv_sub hl [2, 1, 0] rfl) (Nat.lt_succ_self _) (Nat.zero_le _) rfl (Or.inl rfl)
