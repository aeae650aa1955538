/-! FLOATS AND DOUBLES, the rest -/
theorem zx_f {p : Program} {l : Launch} {e : Env} {R : Room} {s : State} {m : MethodId} {args : Array Value} {below : List Frame} {meth : Method} {c : Code} {H : Heap} {locs : List Loc} {cc : ByteArray} {pc : Nat} {ls : Array Slot} {A : Nat → Prop} {G' : Heap → Prop} {cells slots r mc ms : Nat} {XC : String → State → State → Prop} {v w : UInt32} (hx : p.tables.exec = Jvm.exec) (hb : c.code = cc) (hr : meth.sig.returnType = some .float) (hlocks : meth.locks = false) (h0 : r = 0) (h : w = v) (hG : G' H) (hS : va_S A s.heap H locs) (h1 : cells ≤ mc) (h2 : slots ≤ ms) (hd : decode cc pc = .ok (.freturn, 1)) : W p l e R s m args below meth c H locs cells slots (vx_MQ below (zxQ r (some (.float v)) G' A) XC args s mc ms A) (F0 m pc ls [.float w]) := by
  subst h
  exact zwid h1 h2 (vx_ret (W.fret (cc := cc) hx hb hr (fun t ht hW => ⟨h0, rfl, by rw [ht]; exact hG, hS.F ht⟩) hS.2.2 hd hlocks))
theorem zx_d {p : Program} {l : Launch} {e : Env} {R : Room} {s : State} {m : MethodId} {args : Array Value} {below : List Frame} {meth : Method} {c : Code} {H : Heap} {locs : List Loc} {cc : ByteArray} {pc : Nat} {ls : Array Slot} {A : Nat → Prop} {G' : Heap → Prop} {cells slots r mc ms : Nat} {XC : String → State → State → Prop} {v w : UInt64} (hx : p.tables.exec = Jvm.exec) (hb : c.code = cc) (hr : meth.sig.returnType = some .double) (hlocks : meth.locks = false) (h0 : r = 0) (h : w = v) (hG : G' H) (hS : va_S A s.heap H locs) (h1 : cells ≤ mc) (h2 : slots ≤ ms) (hd : decode cc pc = .ok (.dreturn, 1)) : W p l e R s m args below meth c H locs cells slots (vx_MQ below (zxQ r (some (.double v)) G' A) XC args s mc ms A) (F0 m pc ls [.double w]) := by
  subst h
  exact zwid h1 h2 (vx_ret (W.dret (cc := cc) hx hb hr (fun t ht hW => ⟨h0, rfl, by rw [ht]; exact hG, hS.F ht⟩) hS.2.2 hd hlocks))
theorem zm_f {p : Program} {l : Launch} {e : Env} {R : Room} {s : State} {m : MethodId} {args : Array Value} {below : List Frame} {meth : Method} {c : Code} {H : Heap} {locs : List Loc} {cc : ByteArray} {pc : Nat} {ls : Array Slot} {A : Nat → Prop} {G' : Heap → Prop} {v w : UInt32} (hx : p.tables.exec = Jvm.exec) (hb : c.code = cc) (hr : meth.sig.returnType = some .float) (hlocks : meth.locks = false) (h : w = v) (hG : G' H) (hS : va_S A s.heap H locs) (hd : decode cc pc = .ok (.freturn, 1)) : W p l e R s m args below meth c H locs 0 0 (MQ below (zqM (some (.float v)) G' A) args s 0 0 A) (F0 m pc ls [.float w]) := by
  subst h
  exact W.fret (cc := cc) hx hb hr (fun t ht hW => ⟨rfl, by rw [ht]; exact hG, hS.F ht⟩) hS.2.2 hd hlocks
theorem zm_d {p : Program} {l : Launch} {e : Env} {R : Room} {s : State} {m : MethodId} {args : Array Value} {below : List Frame} {meth : Method} {c : Code} {H : Heap} {locs : List Loc} {cc : ByteArray} {pc : Nat} {ls : Array Slot} {A : Nat → Prop} {G' : Heap → Prop} {v w : UInt64} (hx : p.tables.exec = Jvm.exec) (hb : c.code = cc) (hr : meth.sig.returnType = some .double) (hlocks : meth.locks = false) (h : w = v) (hG : G' H) (hS : va_S A s.heap H locs) (hd : decode cc pc = .ok (.dreturn, 1)) : W p l e R s m args below meth c H locs 0 0 (MQ below (zqM (some (.double v)) G' A) args s 0 0 A) (F0 m pc ls [.double w]) := by
  subst h
  exact W.dret (cc := cc) hx hb hr (fun t ht hW => ⟨rfl, by rw [ht]; exact hG, hS.F ht⟩) hS.2.2 hd hlocks
def k_gs (σ : zS) : UInt32 := FP.fdiv (FP.i2f (nI (k_cntD σ))) (FP.i2f (zI σ 506 0))
def k_md (σ : zS) : UInt64 := FP.ddiv (FP.i2d (k_sumG σ)) (FP.i2d (zI σ 506 0))
def k_none (σ : zS) : Nat := if zI σ 506 0 = 0 then 6 else 0
def y_gsn (μ : zS) : Nat := zct (y_down μ) (zn μ 840)
def y_gs (μ : zS) : UInt32 := if zI μ 840 0 = 0 then FP.fconst0 else FP.fdiv (FP.i2f (nI (y_gsn μ))) (FP.i2f (zI μ 840 0))
def y_mdn (μ : zS) : Int32 := zsmI (fun c => zA μ 43 0 c) (zn μ 840)
def y_md (μ : zS) : UInt64 := if zI μ 840 0 = 0 then FP.dconst0 else FP.ddiv (FP.i2d (y_mdn μ)) (FP.i2d (zI μ 840 0))
def f_X10_share (μ : zS) : zS := zpI μ 838 0 (if zI μ 840 0 = 0 then 1 else 0)
theorem zmX9_groundedShare : zmV yX9_groundedShare RX9 cX9_groundedShare 2 (some .float) 0 := ⟨m_1079, m_1080, m_1, m_1081, rfl, by decide, by decide, by decide +kernel⟩
set_option maxRecDepth 100000 in
set_option maxHeartbeats 4000000 in
theorem ctX9_groundedShare (l : Launch) (hl0 : l.stackTraces = false) (D : va_G) (cy : Nat → ClassId) (rf : Nat → Nat) (sb ag : Nat) (ad : Nat → Nat → Nat) (σ : zS) (adD : Nat → Nat → Nat) (δ : zS) (hV : zV σ) : vx_Met l yX9_groundedShare (zw yX9_groundedShare cX9_groundedShare 2 (some .float)) (zrx 6 1 6) (va_Pc [.ref sb] (zBE D cy rf (zSA D cy sb ag ad σ adD δ))) (zxQ (k_none σ) (some (.float (k_gs σ))) (zSA D cy sb ag ad σ adD δ) (fun _ => False)) (zxC (k_none σ)) 1 6 (fun _ => False) := by
  refine zmetX (by decide) rfl (Nat.le_of_ble_eq_true rfl) rfl (fun p e s m below meth c ls X hml hr hlocks hex hv hl => ?_)
  obtain ⟨hK, hE, hO, hW, hWD⟩ := hv
  obtain ⟨hx, hb, -, -⟩ := id X
  have hl : lv_has ls 2 [(0, .ref sb)] := hl
  refine lv_aload_n hx hb dX9_groundedShare_0 rfl (lv_at hl 0 rfl) ?_
  refine zg7_0 X hK hO m_308 dX9_groundedShare_1 ?_
  refine zg5_6 X hK hW m_256 dX9_groundedShare_4 ?_
  refine lv_istore_n (lv' := [(1, .int (zI σ 506 0)), (0, .ref sb)]) hx hb dX9_groundedShare_7 rfl hl (by decide) rfl (fun ls hl => ?_)
  refine lv_iload_n hx hb dX9_groundedShare_8 rfl (lv_at hl 0 rfl) ?_
  refine lv_if_ne (tgt := 22) hx hb dX9_groundedShare_9 (by decide) (fun b1 => ?_) (fun b1 => ?_)
  · refine lv_aload_n hx hb dX9_groundedShare_22 rfl (lv_at hl 1 rfl) ?_
    refine zg7_0 X hK hO m_308 dX9_groundedShare_23 ?_
    refine zcallRV (As := []) (rest := []) X hml hK hW (ctX5_countGrounded l D cy ad σ hV) zmX5_countGrounded (by decide) m_1085 (zrecv hK (hW 0 0 rfl (by decide)) rfl) ⟨Nat.le_of_ble_eq_true rfl, Nat.le_of_ble_eq_true rfl⟩ ⟨Nat.le_of_ble_eq_true rfl, Nat.le_of_ble_eq_true rfl⟩ rfl hl.1 rfl (Nat.le_of_ble_eq_true rfl) dX9_groundedShare_26 ?_
    refine lv_i2f hx hb dX9_groundedShare_29 ?_
    refine lv_iload_n hx hb dX9_groundedShare_30 rfl (lv_at hl 0 rfl) ?_
    refine lv_i2f hx hb dX9_groundedShare_31 ?_
    refine lv_fdiv hx hb dX9_groundedShare_32 (zn_f b1) ?_
    exact zx_f hx hb hr hlocks (show k_none σ = 0 from (by rw [k_none, if_neg b1])) rfl ⟨hO, hW, hWD⟩ va_S.rf (Nat.le_of_ble_eq_true rfl) (Nat.le_of_ble_eq_true rfl) dX9_groundedShare_33
  · have hrr : k_none σ = 6 := (by rw [k_none, if_pos b1])
    exact zthS (cls := zxc 6) (text := "no canopies") X hl0 hE va_S.rf (fun _ _ => rfl) zfit_6 m_1082 m_24 zat_6 (by simp [zstr]) hml hl.1 dX9_groundedShare_12 dX9_groundedShare_15 dX9_groundedShare_16 dX9_groundedShare_18 dX9_groundedShare_21 hex hlocks ⟨Nat.le_of_ble_eq_true rfl, Nat.le_of_ble_eq_true rfl⟩ (Nat.le_of_ble_eq_true rfl) ⟨Nat.le_of_ble_eq_true rfl, Nat.le_of_ble_eq_true rfl⟩ (Nat.le_of_ble_eq_true rfl) (Nat.le_of_ble_eq_true rfl) (by rw [hrr]; decide) (by rw [hrr])
theorem zmX9_meanDrops : zmV yX9_meanDrops RX9 cX9_meanDrops 2 (some .double) 0 := ⟨m_1093, m_1094, m_1, m_1095, rfl, by decide, by decide, by decide +kernel⟩
set_option maxRecDepth 100000 in
set_option maxHeartbeats 4000000 in
theorem ctX9_meanDrops (l : Launch) (hl0 : l.stackTraces = false) (D : va_G) (cy : Nat → ClassId) (rf : Nat → Nat) (sb ag : Nat) (ad : Nat → Nat → Nat) (σ : zS) (adD : Nat → Nat → Nat) (δ : zS) (hV : zV σ) : vx_Met l yX9_meanDrops (zw yX9_meanDrops cX9_meanDrops 2 (some .double)) (zrx 6 1 6) (va_Pc [.ref sb] (zBE D cy rf (zSA D cy sb ag ad σ adD δ))) (zxQ (k_none σ) (some (.double (k_md σ))) (zSA D cy sb ag ad σ adD δ) (fun _ => False)) (zxC (k_none σ)) 1 6 (fun _ => False) := by
  refine zmetX (by decide) rfl (Nat.le_of_ble_eq_true rfl) rfl (fun p e s m below meth c ls X hml hr hlocks hex hv hl => ?_)
  obtain ⟨hK, hE, hO, hW, hWD⟩ := hv
  obtain ⟨hx, hb, -, -⟩ := id X
  have hl : lv_has ls 2 [(0, .ref sb)] := hl
  refine lv_aload_n hx hb dX9_meanDrops_0 rfl (lv_at hl 0 rfl) ?_
  refine zg7_0 X hK hO m_308 dX9_meanDrops_1 ?_
  refine zg5_6 X hK hW m_256 dX9_meanDrops_4 ?_
  refine lv_istore_n (lv' := [(1, .int (zI σ 506 0)), (0, .ref sb)]) hx hb dX9_meanDrops_7 rfl hl (by decide) rfl (fun ls hl => ?_)
  refine lv_iload_n hx hb dX9_meanDrops_8 rfl (lv_at hl 0 rfl) ?_
  refine lv_if_ne (tgt := 22) hx hb dX9_meanDrops_9 (by decide) (fun b1 => ?_) (fun b1 => ?_)
  · refine lv_aload_n hx hb dX9_meanDrops_22 rfl (lv_at hl 1 rfl) ?_
    refine zg7_0 X hK hO m_308 dX9_meanDrops_23 ?_
    refine zcallRV (As := []) (rest := []) X hml hK hW (ctX5_sumOfGoodDrops l D cy ad σ hV) zmX5_sumOfGoodDrops (by decide) m_1096 (zrecv hK (hW 0 0 rfl (by decide)) rfl) ⟨Nat.le_of_ble_eq_true rfl, Nat.le_of_ble_eq_true rfl⟩ ⟨Nat.le_of_ble_eq_true rfl, Nat.le_of_ble_eq_true rfl⟩ rfl hl.1 rfl (Nat.le_of_ble_eq_true rfl) dX9_meanDrops_26 ?_
    refine lv_i2d hx hb dX9_meanDrops_29 ?_
    refine lv_iload_n hx hb dX9_meanDrops_30 rfl (lv_at hl 0 rfl) ?_
    refine lv_i2d hx hb dX9_meanDrops_31 ?_
    refine lv_ddiv hx hb dX9_meanDrops_32 (zn_d b1) ?_
    exact zx_d hx hb hr hlocks (show k_none σ = 0 from (by rw [k_none, if_neg b1])) rfl ⟨hO, hW, hWD⟩ va_S.rf (Nat.le_of_ble_eq_true rfl) (Nat.le_of_ble_eq_true rfl) dX9_meanDrops_33
  · have hrr : k_none σ = 6 := (by rw [k_none, if_pos b1])
    exact zthS (cls := zxc 6) (text := "no canopies") X hl0 hE va_S.rf (fun _ _ => rfl) zfit_6 m_1082 m_24 zat_6 (by simp [zstr]) hml hl.1 dX9_meanDrops_12 dX9_meanDrops_15 dX9_meanDrops_16 dX9_meanDrops_18 dX9_meanDrops_21 hex hlocks ⟨Nat.le_of_ble_eq_true rfl, Nat.le_of_ble_eq_true rfl⟩ (Nat.le_of_ble_eq_true rfl) ⟨Nat.le_of_ble_eq_true rfl, Nat.le_of_ble_eq_true rfl⟩ (Nat.le_of_ble_eq_true rfl) (Nat.le_of_ble_eq_true rfl) (by rw [hrr]; decide) (by rw [hrr])
theorem zmX10_groundedShare : zmV yX10_groundedShare RX10 cX10_groundedShare 3 (some .float) 0 := ⟨m_1476, m_1477, m_9, m_1478, rfl, by decide, by decide, by decide +kernel⟩
set_option maxRecDepth 100000 in
set_option maxHeartbeats 4000000 in
theorem ctX10_groundedShare (l : Launch) (D : va_G) (cy : Nat → ClassId) (ad : Nat → Nat → Nat) (μ : zS) (hj : zinj ad zsM) (hV : yV μ) : Met l yX10_groundedShare (zw yX10_groundedShare cX10_groundedShare 3 (some .float)) (zrm 3) (va_Pc [.ref (ad 30 0)] (zB D cy (zW D cy ad zsM μ))) (zqM (some (.float (y_gs μ))) (zW D cy ad zsM (f_X10_share μ)) (zrg ad zsM)) 0 0 (zrg ad zsM) := by
  refine zmet (by decide) rfl (Nat.le_of_ble_eq_true rfl) rfl (fun p e s m below meth c ls X hml hr hlocks hv hl => ?_)
  obtain ⟨hK, hW⟩ := hv
  obtain ⟨hx, hb, -, -⟩ := id X
  have hl : lv_has ls 3 [(0, .ref (ad 30 0))] := hl
  have hS : va_S (zrg ad zsM) s.heap s.heap [] := va_S.rf
  generalize hAe : zrg ad zsM = A at hS ⊢
  have hA : ∀ q, zrg ad zsM q → A q := fun q h => by rw [← hAe]; exact h
  refine lv_iconst (v := 0) hx hb dX10_groundedShare_0 (by decide) ?_
  refine lv_istore_n (lv' := [(1, .int 0), (0, .ref (ad 30 0))]) hx hb dX10_groundedShare_1 rfl hl (by decide) rfl (fun ls hl => ?_)
  refine lv_iconst (v := 0) hx hb dX10_groundedShare_2 (by decide) ?_
  refine lv_istore_n (lv' := [(2, .int 0), (1, .int 0), (0, .ref (ad 30 0))]) hx hb dX10_groundedShare_3 rfl hl (by decide) rfl (fun ls hl => ?_)
  have loop4 : ∀ (n : Nat) (k : Nat) (a : Int32) (ls : Array Slot), lv_has ls 3 [(0, .ref (ad 30 0)), (1, .int a), (2, .int (nI k))] → zn μ 840 + 1 - k < n → (k ≤ zn μ 840) → (a = nI (zct (y_down μ) k)) → W p l e (zrm 3) s m ([.ref (ad 30 0)] : List Value).toArray below meth c s.heap [] 0 0 (MQ below (zqM (some (.float (y_gs μ))) (zW D cy ad zsM (f_X10_share μ)) A) ([.ref (ad 30 0)] : List Value).toArray s 0 0 A) (F0 m 4 ls []) := by
    intro n
    induction n with
    | zero => intro k a ls hl hm hk ha; exact absurd hm (Nat.not_lt_zero _)
    | succ n ih4 =>
      intro k a ls hl hm hk ha
      refine lv_iload_n hx hb dX10_groundedShare_4 rfl (lv_at hl 2 rfl) ?_
      refine lv_aload_n hx hb dX10_groundedShare_5 rfl (lv_at hl 0 rfl) ?_
      refine zg8_40 X hK hW m_1146 dX10_groundedShare_6 ?_
      refine lv_icmp_ge (tgt := 34) hx hb dX10_groundedShare_9 (by decide) (fun b1 => ?_) (fun b1 => ?_)
      · refine lv_aload_n hx hb dX10_groundedShare_34 rfl (lv_at hl 0 rfl) ?_
        refine lv_aload_n hx hb dX10_groundedShare_35 rfl (lv_at hl 0 rfl) ?_
        refine zg8_40 X hK hW m_1146 dX10_groundedShare_36 ?_
        refine lv_if_ne (tgt := 46) hx hb dX10_groundedShare_39 (by decide) (fun b2 => ?_) (fun b2 => ?_)
        · refine lv_iconst (v := 0) hx hb dX10_groundedShare_46 (by decide) ?_
          refine zp8_38 X hK hW hj hA hS m_1144 dX10_groundedShare_47 (fun H locs hW hS => ?_)
          refine lv_aload_n hx hb dX10_groundedShare_50 rfl (lv_at hl 0 rfl) ?_
          refine zg8_40 X hK hW m_1146 dX10_groundedShare_51 ?_
          rw [show zI (zpI μ 838 0 0) 840 0 = zI μ 840 0 from rfl]
          refine lv_if_ne (tgt := 61) hx hb dX10_groundedShare_54 (by decide) (fun b3 => ?_) (fun h => absurd h b2)
          refine lv_iload_n hx hb dX10_groundedShare_61 rfl (lv_at hl 1 rfl) ?_
          refine lv_i2f hx hb dX10_groundedShare_62 ?_
          refine lv_aload_n hx hb dX10_groundedShare_63 rfl (lv_at hl 0 rfl) ?_
          refine zg8_40 X hK hW m_1146 dX10_groundedShare_64 ?_
          rw [show zI (zpI μ 838 0 0) 840 0 = zI μ 840 0 from rfl]
          refine lv_i2f hx hb dX10_groundedShare_67 ?_
          refine lv_fdiv hx hb dX10_groundedShare_68 (zn_f b2) ?_
          exact zm_f hx hb hr hlocks (by rw [y_gs, if_neg b2, y_gsn, ← zge_of hV.1.2.1 (by decide) hk b1, ← ha]) (by rw [f_X10_share, if_neg b2]; exact hW) hS dX10_groundedShare_69
        · refine lv_iconst (v := 1) hx hb dX10_groundedShare_42 (by decide) ?_
          refine lv_goto (tgt := 47) hx hb dX10_groundedShare_43 (by decide) ?_
          refine zp8_38 X hK hW hj hA hS m_1144 dX10_groundedShare_47 (fun H locs hW hS => ?_)
          refine lv_aload_n hx hb dX10_groundedShare_50 rfl (lv_at hl 0 rfl) ?_
          refine zg8_40 X hK hW m_1146 dX10_groundedShare_51 ?_
          rw [show zI (zpI μ 838 0 1) 840 0 = zI μ 840 0 from rfl]
          refine lv_if_ne (tgt := 61) hx hb dX10_groundedShare_54 (by decide) (fun h => absurd h (not_not_intro b2)) (fun b4 => ?_)
          refine lv_fconst0 hx hb dX10_groundedShare_57 ?_
          refine lv_goto (tgt := 69) hx hb dX10_groundedShare_58 (by decide) ?_
          exact zm_f hx hb hr hlocks (by rw [y_gs, if_pos b2]) (by rw [f_X10_share, if_pos b2]; exact hW) hS dX10_groundedShare_69
      · have hlt : k < zn μ 840 := zlt_of hV.1.2.1 (by decide) hk b1
        have hltN := Nat.lt_of_lt_of_le hlt hV.1.2.1.2
        refine lv_iload_n hx hb dX10_groundedShare_12 rfl (lv_at hl 1 rfl) ?_
        refine lv_aload_n hx hb dX10_groundedShare_13 rfl (lv_at hl 0 rfl) ?_
        refine lv_iload_n hx hb dX10_groundedShare_14 rfl (lv_at hl 2 rfl) ?_
        refine zcallRV (As := [.int (nI k)]) (rest := [.int a]) X hml hK hW (ctX10_isHeldDown l D cy ad μ k (by omega) hV) zmX10_isHeldDown (by decide) m_1398 (zrecv hK (hW 30 0 rfl (by decide)) rfl) ⟨Nat.le_of_ble_eq_true rfl, Nat.le_of_ble_eq_true rfl⟩ ⟨Nat.zero_le _, Nat.zero_le _⟩ rfl hl.1 rfl (Nat.le_of_ble_eq_true rfl) dX10_groundedShare_15 ?_
        refine zb_eq (tgt := 25) hx hb dX10_groundedShare_18 (by decide) (fun b5 => ?_) (fun b5 => ?_)
        · refine lv_iconst (v := 0) hx hb dX10_groundedShare_25 (by decide) ?_
          refine lv_iadd hx hb dX10_groundedShare_26 ?_
          refine lv_istore_n (lv' := [(1, .int (a + 0)), (0, .ref (ad 30 0)), (2, .int (nI k))]) hx hb dX10_groundedShare_27 rfl hl (by decide) rfl (fun ls hl => ?_)
          refine lv_iinc (v := nI (k + 1)) (lv' := [(2, .int (nI (k + 1))), (1, .int (a + 0)), (0, .ref (ad 30 0))]) hx hb dX10_groundedShare_28 hl (k := 2) rfl (nI_1 k) (by decide) rfl (fun ls hl => ?_)
          refine lv_goto (tgt := 4) hx hb dX10_groundedShare_31 (by decide) ?_
          exact ih4 (k + 1) (a + 0) _ (lv_sub hl [2, 1, 0] rfl) (by omega) hlt (by rw [ha, zct, if_neg (by simp [b1, Int32.not_le.mp b1, b5]), Nat.add_zero]; exact Int32.add_zero _)
        · refine lv_iconst (v := 1) hx hb dX10_groundedShare_21 (by decide) ?_
          refine lv_goto (tgt := 26) hx hb dX10_groundedShare_22 (by decide) ?_
          refine lv_iadd hx hb dX10_groundedShare_26 ?_
          refine lv_istore_n (lv' := [(1, .int (a + 1)), (0, .ref (ad 30 0)), (2, .int (nI k))]) hx hb dX10_groundedShare_27 rfl hl (by decide) rfl (fun ls hl => ?_)
          refine lv_iinc (v := nI (k + 1)) (lv' := [(2, .int (nI (k + 1))), (1, .int (a + 1)), (0, .ref (ad 30 0))]) hx hb dX10_groundedShare_28 hl (k := 2) rfl (nI_1 k) (by decide) rfl (fun ls hl => ?_)
          refine lv_goto (tgt := 4) hx hb dX10_groundedShare_31 (by decide) ?_
          exact ih4 (k + 1) (a + 1) _ (lv_sub hl [2, 1, 0] rfl) (by omega) hlt (by rw [ha, zct, if_pos (by simp [b1, Int32.not_le.mp b1, b5]), ← nI_1])
  exact loop4 _ 0 0 _ (lv_sub hl [2, 1, 0] rfl) (Nat.lt_succ_self _) (Nat.zero_le _) rfl
theorem zmX10_meanDrops : zmV yX10_meanDrops RX10 cX10_meanDrops 3 (some .double) 0 := ⟨m_1480, m_1481, m_9, m_1482, rfl, by decide, by decide, by decide +kernel⟩
set_option maxRecDepth 100000 in
set_option maxHeartbeats 4000000 in
theorem ctX10_meanDrops (l : Launch) (D : va_G) (cy : Nat → ClassId) (ad : Nat → Nat → Nat) (μ : zS) (hj : zinj ad zsM) (hV : yV μ) : Met l yX10_meanDrops (zw yX10_meanDrops cX10_meanDrops 3 (some .double)) (zrm 0) (va_Pc [.ref (ad 30 0)] (zB D cy (zW D cy ad zsM μ))) (zqM (some (.double (y_md μ))) (zW D cy ad zsM (f_X10_share μ)) (zrg ad zsM)) 0 0 (zrg ad zsM) := by
  refine zmet (by decide) rfl (Nat.le_of_ble_eq_true rfl) rfl (fun p e s m below meth c ls X hml hr hlocks hv hl => ?_)
  obtain ⟨hK, hW⟩ := hv
  obtain ⟨hx, hb, -, -⟩ := id X
  have hl : lv_has ls 3 [(0, .ref (ad 30 0))] := hl
  have hS : va_S (zrg ad zsM) s.heap s.heap [] := va_S.rf
  generalize hAe : zrg ad zsM = A at hS ⊢
  have hA : ∀ q, zrg ad zsM q → A q := fun q h => by rw [← hAe]; exact h
  refine lv_iconst (v := 0) hx hb dX10_meanDrops_0 (by decide) ?_
  refine lv_istore_n (lv' := [(1, .int 0), (0, .ref (ad 30 0))]) hx hb dX10_meanDrops_1 rfl hl (by decide) rfl (fun ls hl => ?_)
  refine lv_iconst (v := 0) hx hb dX10_meanDrops_2 (by decide) ?_
  refine lv_istore_n (lv' := [(2, .int 0), (1, .int 0), (0, .ref (ad 30 0))]) hx hb dX10_meanDrops_3 rfl hl (by decide) rfl (fun ls hl => ?_)
  have loop4 : ∀ (n : Nat) (k : Nat) (a : Int32) (ls : Array Slot), lv_has ls 3 [(0, .ref (ad 30 0)), (1, .int a), (2, .int (nI k))] → zn μ 840 + 1 - k < n → (k ≤ zn μ 840) → (a = zsmI (fun c => zA μ 43 0 c) k) → W p l e (zrm 0) s m ([.ref (ad 30 0)] : List Value).toArray below meth c s.heap [] 0 0 (MQ below (zqM (some (.double (y_md μ))) (zW D cy ad zsM (f_X10_share μ)) A) ([.ref (ad 30 0)] : List Value).toArray s 0 0 A) (F0 m 4 ls []) := by
    intro n
    induction n with
    | zero => intro k a ls hl hm hk ha; exact absurd hm (Nat.not_lt_zero _)
    | succ n ih4 =>
      intro k a ls hl hm hk ha
      refine lv_iload_n hx hb dX10_meanDrops_4 rfl (lv_at hl 2 rfl) ?_
      refine lv_aload_n hx hb dX10_meanDrops_5 rfl (lv_at hl 0 rfl) ?_
      refine zg8_40 X hK hW m_1146 dX10_meanDrops_6 ?_
      refine lv_icmp_ge (tgt := 27) hx hb dX10_meanDrops_9 (by decide) (fun b1 => ?_) (fun b1 => ?_)
      · refine lv_aload_n hx hb dX10_meanDrops_27 rfl (lv_at hl 0 rfl) ?_
        refine lv_aload_n hx hb dX10_meanDrops_28 rfl (lv_at hl 0 rfl) ?_
        refine zg8_40 X hK hW m_1146 dX10_meanDrops_29 ?_
        refine lv_if_ne (tgt := 39) hx hb dX10_meanDrops_32 (by decide) (fun b2 => ?_) (fun b2 => ?_)
        · refine lv_iconst (v := 0) hx hb dX10_meanDrops_39 (by decide) ?_
          refine zp8_38 X hK hW hj hA hS m_1144 dX10_meanDrops_40 (fun H locs hW hS => ?_)
          refine lv_aload_n hx hb dX10_meanDrops_43 rfl (lv_at hl 0 rfl) ?_
          refine zg8_40 X hK hW m_1146 dX10_meanDrops_44 ?_
          rw [show zI (zpI μ 838 0 0) 840 0 = zI μ 840 0 from rfl]
          refine lv_if_ne (tgt := 54) hx hb dX10_meanDrops_47 (by decide) (fun b3 => ?_) (fun h => absurd h b2)
          refine lv_iload_n hx hb dX10_meanDrops_54 rfl (lv_at hl 1 rfl) ?_
          refine lv_i2d hx hb dX10_meanDrops_55 ?_
          refine lv_aload_n hx hb dX10_meanDrops_56 rfl (lv_at hl 0 rfl) ?_
          refine zg8_40 X hK hW m_1146 dX10_meanDrops_57 ?_
          rw [show zI (zpI μ 838 0 0) 840 0 = zI μ 840 0 from rfl]
          refine lv_i2d hx hb dX10_meanDrops_60 ?_
          refine lv_ddiv hx hb dX10_meanDrops_61 (zn_d b2) ?_
          exact zm_d hx hb hr hlocks (by rw [y_md, if_neg b2, y_mdn, ← zge_of hV.1.2.1 (by decide) hk b1, ← ha]) (by rw [f_X10_share, if_neg b2]; exact hW) hS dX10_meanDrops_62
        · refine lv_iconst (v := 1) hx hb dX10_meanDrops_35 (by decide) ?_
          refine lv_goto (tgt := 40) hx hb dX10_meanDrops_36 (by decide) ?_
          refine zp8_38 X hK hW hj hA hS m_1144 dX10_meanDrops_40 (fun H locs hW hS => ?_)
          refine lv_aload_n hx hb dX10_meanDrops_43 rfl (lv_at hl 0 rfl) ?_
          refine zg8_40 X hK hW m_1146 dX10_meanDrops_44 ?_
          rw [show zI (zpI μ 838 0 1) 840 0 = zI μ 840 0 from rfl]
          refine lv_if_ne (tgt := 54) hx hb dX10_meanDrops_47 (by decide) (fun h => absurd h (not_not_intro b2)) (fun b4 => ?_)
          refine lv_dconst0 hx hb dX10_meanDrops_50 ?_
          refine lv_goto (tgt := 62) hx hb dX10_meanDrops_51 (by decide) ?_
          exact zm_d hx hb hr hlocks (by rw [y_md, if_pos b2]) (by rw [f_X10_share, if_pos b2]; exact hW) hS dX10_meanDrops_62
      · have hlt : k < zn μ 840 := zlt_of hV.1.2.1 (by decide) hk b1
        have hltN := Nat.lt_of_lt_of_le hlt hV.1.2.1.2
        refine lv_iload_n hx hb dX10_meanDrops_12 rfl (lv_at hl 1 rfl) ?_
        refine lv_aload_n hx hb dX10_meanDrops_13 rfl (lv_at hl 0 rfl) ?_
        refine zg8_12 X hK hW m_1118 dX10_meanDrops_14 ?_
        refine lv_iload_n hx hb dX10_meanDrops_17 rfl (lv_at hl 2 rfl) ?_
        refine zan43 X hK hW (by omega) dX10_meanDrops_18 ?_
        refine lv_iadd hx hb dX10_meanDrops_19 ?_
        refine lv_istore_n (lv' := [(1, .int (a + (zA μ 43 0 k))), (0, .ref (ad 30 0)), (2, .int (nI k))]) hx hb dX10_meanDrops_20 rfl hl (by decide) rfl (fun ls hl => ?_)
        refine lv_iinc (v := nI (k + 1)) (lv' := [(2, .int (nI (k + 1))), (1, .int (a + (zA μ 43 0 k))), (0, .ref (ad 30 0))]) hx hb dX10_meanDrops_21 hl (k := 2) rfl (nI_1 k) (by decide) rfl (fun ls hl => ?_)
        refine lv_goto (tgt := 4) hx hb dX10_meanDrops_24 (by decide) ?_
        exact ih4 (k + 1) (a + (zA μ 43 0 k)) _ (lv_sub hl [2, 1, 0] rfl) (by omega) hlt (by rw [ha, zsmI])
  exact loop4 _ 0 0 _ (lv_sub hl [2, 1, 0] rfl) (Nat.lt_succ_self _) (Nat.zero_le _) rfl
