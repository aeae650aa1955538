/-! FLOATS AND DOUBLES, the rest -/
theorem zx_f {p : Program} {l : Launch} {e : Env} {R : Room} {s : State} {m : MethodId} {args : Array Value} {below : List Frame} {meth : Method} {c : Code} {H : Heap} {locs : List Loc} {cc : ByteArray} {pc : Nat} {ls : Array Slot} {A : Nat → Prop} {G' : Heap → Prop} {cells slots r mc ms : Nat} {XC : String → State → State → Prop} {v w : UInt32} (hx : p.tables.exec = Jvm.exec) (hb : c.code = cc) (hr : meth.sig.returnType = some .float) (hlocks : meth.locks = false) (h0 : r = 0) (h : w = v) (hG : G' H) (hS : va_S A s.heap H locs) (h1 : cells ≤ mc) (h2 : slots ≤ ms) (hd : decode cc pc = .ok (.freturn, 1)) : W p l e R s m args below meth c H locs cells slots (vx_MQ below (zxQ r (some (.float v)) G' A) XC args s mc ms A) (F0 m pc ls [.float w]) := by
  subst h
  exact zwid h1 h2 (vx_ret (W.fret (cc := cc) hx hb hr (fun t ht hW => ⟨h0, rfl, by rw [ht]; exact hG, hS.F ht⟩) hS.2.2 hd hlocks))
theorem zx_d {p : Program} {l : Launch} {e : Env} {R : Room} {s : State} {m : MethodId} {args : Array Value} {below : List Frame} {meth : Method} {c : Code} {H : Heap} {locs : List Loc} {cc : ByteArray} {pc : Nat} {ls : Array Slot} {A : Nat → Prop} {G' : Heap → Prop} {cells slots r mc ms : Nat} {XC : String → State → State → Prop} {v w : UInt64} (hx : p.tables.exec = Jvm.exec) (hb : c.code = cc) (hr : meth.sig.returnType = some .double) (hlocks : meth.locks = false) (h0 : r = 0) (h : w = v) (hG : G' H) (hS : va_S A s.heap H locs) (h1 : cells ≤ mc) (h2 : slots ≤ ms) (hd : decode cc pc = .ok (.dreturn, 1)) : W p l e R s m args below meth c H locs cells slots (vx_MQ below (zxQ r (some (.double v)) G' A) XC args s mc ms A) (F0 m pc ls [.double w]) := by
  subst h
  exact zwid h1 h2 (vx_ret (W.dret (cc := cc) hx hb hr (fun t ht hW => ⟨h0, rfl, by rw [ht]; exact hG, hS.F ht⟩) hS.2.2 hd hlocks))
theorem zm_f {p : Program} {l : Launch} {e : Env} {R : Room} {s : State} {m : MethodId} {args : Array Value} {below : List Frame} {meth : Method} {c : Code} {H : Heap} {locs : List Loc} {cc : ByteArray} {pc : Nat} {ls : Array Slot} {A : Nat → Prop} {G' : Heap → Prop} {v w : UInt32} (hx : p.tables.exec = Jvm.exec) (hb : c.code = cc) (hr : meth.sig.returnType = some .float) (hlocks : meth.locks = false) (h : w = v) (hG : G' H) (hS : va_S A s.heap H locs) (hd : decode cc pc = .ok (.freturn, 1)) : W p l e R s m args below meth c H locs 0 0 (MQ below (zqM (some (.float v)) G' A) args s 0 0 A) (F0 m pc ls [.float w]) := by
  subst h
  exact W.fret (cc := cc) hx hb hr (fun t ht hW => ⟨rfl, by rw [ht]; exact hG, hS.F ht⟩) hS.2.2 hd hlocks
theorem zm_d {p : Program} {l : Launch} {e : Env} {R : Room} {s : State} {m : MethodId} {args : Array Value} {below : List Frame} {meth : Method} {c : Code} {H : Heap} {locs : List Loc} {cc : ByteArray} {pc : Nat} {ls : Array Slot} {A : Nat → Prop} {G' : Heap → Prop} {v w : UInt64} (hx : p.tables.exec = Jvm.exec) (hb : c.code = cc) (hr : meth.sig.returnType = some .double) (hlocks : meth.locks = false) (h : w = v) (hG : G' H) (hS : va_S A s.heap H locs) (hd : decode cc pc = .ok (.dreturn, 1)) : W p l e R s m args below meth c H locs 0 0 (MQ below (zqM (some (.double v)) G' A) args s 0 0 A) (F0 m pc ls [.double w]) := by
  subst h
  exact W.dret (cc := cc) hx hb hr (fun t ht hW => ⟨rfl, by rw [ht]; exact hG, hS.F ht⟩) hS.2.2 hd hlocks
def k_gs (σ : zS) : UInt32 := FP.fdiv (FP.i2f (nI (k_cntD σ))) (FP.i2f (zI σ 506 0))
def k_md (σ : zS) : UInt64 := FP.ddiv (FP.i2d (k_sumG σ)) (FP.i2d (zI σ 506 0))
def k_none (σ : zS) : Nat := if zI σ 506 0 = 0 then 6 else 0
def y_gsn (μ : zS) : Nat := zct (y_down μ) (zn μ 840)
def y_gs (μ : zS) : UInt32 := if zI μ 840 0 = 0 then FP.fconst0 else FP.fdiv (FP.i2f (nI (y_gsn μ))) (FP.i2f (zI μ 840 0))
def y_mdn (μ : zS) : Int32 := zsmI (fun c => zA μ 43 0 c) (zn μ 840)
def y_md (μ : zS) : UInt64 := if zI μ 840 0 = 0 then FP.dconst0 else FP.ddiv (FP.i2d (y_mdn μ)) (FP.i2d (zI μ 840 0))
def f_X10_share (μ : zS) : zS := zpI μ 838 0 (if zI μ 840 0 = 0 then 1 else 0)
theorem zmX9_groundedShare : zmV yX9_groundedShare RX9 cX9_groundedShare 2 (some .float) 0 := ⟨m_1152, m_1153, m_1, m_1154, rfl, by decide, by decide, by decide +kernel⟩
set_option maxRecDepth 100000 in
set_option maxHeartbeats 4000000 in
theorem ctX9_groundedShare (l : Launch) (hl0 : l.stackTraces = false) (D : va_G) (cy : Nat → ClassId) (rf : Nat → Nat) (sb ag : Nat) (ad : Nat → Nat → Nat) (σ : zS) (adD : Nat → Nat → Nat) (δ : zS) (hV : zV σ) : vx_Met l yX9_groundedShare (zw yX9_groundedShare cX9_groundedShare 2 (some .float)) (zrx 6 1 6) (va_Pc [.ref sb] (zBE D cy rf (zSA D cy sb ag ad σ adD δ))) (zxQ (k_none σ) (some (.float (k_gs σ))) (zSA D cy sb ag ad σ adD δ) (fun _ => False)) (zxC (k_none σ)) 1 6 (fun _ => False) := by
  refine zmetX (by decide) rfl (Nat.le_of_ble_eq_true rfl) rfl (fun p e s m below meth c ls X hml hr hlocks hex hv hl => ?_)
  obtain ⟨hK, hE, hO, hW, hWD⟩ := hv
  obtain ⟨hx, hb, -, -⟩ := id X
  have hl : lv_has ls 2 [(0, .ref sb)] := hl
  refine lv_aload_n hx hb dX9_groundedShare_0 rfl (lv_at hl 0 rfl) ?_
  refine zg7_0 X hK hO m_311 dX9_groundedShare_1 ?_
  refine zg5_6 X hK hW m_259 dX9_groundedShare_4 ?_
  refine lv_istore_n (lv' := [(1, .int (zI σ 506 0)), (0, .ref sb)]) hx hb dX9_groundedShare_7 rfl hl (by decide) rfl (fun ls hl => ?_)
  refine lv_iload_n hx hb dX9_groundedShare_8 rfl (lv_at hl 0 rfl) ?_
  refine lv_if_ne (tgt := 22) hx hb dX9_groundedShare_9 (by decide) (fun b1 => ?_) (fun b1 => ?_)
  · refine lv_aload_n hx hb dX9_groundedShare_22 rfl (lv_at hl 1 rfl) ?_
    refine zg7_0 X hK hO m_311 dX9_groundedShare_23 ?_
    refine zcallRV (As := []) (rest := []) X hml hK hW (ctX5_countGrounded l D cy ad σ hV) zmX5_countGrounded (by decide) m_1158 (zrecv hK (hW 0 0 rfl (by decide)) rfl) ⟨Nat.le_of_ble_eq_true rfl, Nat.le_of_ble_eq_true rfl⟩ ⟨Nat.le_of_ble_eq_true rfl, Nat.le_of_ble_eq_true rfl⟩ rfl hl.1 rfl (Nat.le_of_ble_eq_true rfl) dX9_groundedShare_26 ?_
    refine lv_i2f hx hb dX9_groundedShare_29 ?_
    refine lv_iload_n hx hb dX9_groundedShare_30 rfl (lv_at hl 0 rfl) ?_
    refine lv_i2f hx hb dX9_groundedShare_31 ?_
    refine lv_fdiv hx hb dX9_groundedShare_32 (zn_f b1) ?_
    exact zx_f hx hb hr hlocks (show k_none σ = 0 from (by rw [k_none, if_neg b1])) rfl ⟨hO, hW, hWD⟩ va_S.rf (Nat.le_of_ble_eq_true rfl) (Nat.le_of_ble_eq_true rfl) dX9_groundedShare_33
  · have hrr : k_none σ = 6 := (by rw [k_none, if_pos b1])
    exact zthS (cls := zxc 6) (text := "no canopies") X hl0 hE va_S.rf (fun _ _ => rfl) zfit_6 m_1155 m_26 zat_6 (by simp [zstr]) hml hl.1 dX9_groundedShare_12 dX9_groundedShare_15 dX9_groundedShare_16 dX9_groundedShare_18 dX9_groundedShare_21 hex hlocks ⟨Nat.le_of_ble_eq_true rfl, Nat.le_of_ble_eq_true rfl⟩ (Nat.le_of_ble_eq_true rfl) ⟨Nat.le_of_ble_eq_true rfl, Nat.le_of_ble_eq_true rfl⟩ (Nat.le_of_ble_eq_true rfl) (Nat.le_of_ble_eq_true rfl) (by rw [hrr]; decide) (by rw [hrr])
theorem zmX9_meanDrops : zmV yX9_meanDrops RX9 cX9_meanDrops 2 (some .double) 0 := ⟨m_1203, m_1204, m_1, m_1205, rfl, by decide, by decide, by decide +kernel⟩
set_option maxRecDepth 100000 in
set_option maxHeartbeats 4000000 in
theorem ctX9_meanDrops (l : Launch) (hl0 : l.stackTraces = false) (D : va_G) (cy : Nat → ClassId) (rf : Nat → Nat) (sb ag : Nat) (ad : Nat → Nat → Nat) (σ : zS) (adD : Nat → Nat → Nat) (δ : zS) (hV : zV σ) : vx_Met l yX9_meanDrops (zw yX9_meanDrops cX9_meanDrops 2 (some .double)) (zrx 6 1 6) (va_Pc [.ref sb] (zBE D cy rf (zSA D cy sb ag ad σ adD δ))) (zxQ (k_none σ) (some (.double (k_md σ))) (zSA D cy sb ag ad σ adD δ) (fun _ => False)) (zxC (k_none σ)) 1 6 (fun _ => False) := by
  refine zmetX (by decide) rfl (Nat.le_of_ble_eq_true rfl) rfl (fun p e s m below meth c ls X hml hr hlocks hex hv hl => ?_)
  obtain ⟨hK, hE, hO, hW, hWD⟩ := hv
  obtain ⟨hx, hb, -, -⟩ := id X
  have hl : lv_has ls 2 [(0, .ref sb)] := hl
  refine lv_aload_n hx hb dX9_meanDrops_0 rfl (lv_at hl 0 rfl) ?_
  refine zg7_0 X hK hO m_311 dX9_meanDrops_1 ?_
  refine zg5_6 X hK hW m_259 dX9_meanDrops_4 ?_
  refine lv_istore_n (lv' := [(1, .int (zI σ 506 0)), (0, .ref sb)]) hx hb dX9_meanDrops_7 rfl hl (by decide) rfl (fun ls hl => ?_)
  refine lv_iload_n hx hb dX9_meanDrops_8 rfl (lv_at hl 0 rfl) ?_
  refine lv_if_ne (tgt := 22) hx hb dX9_meanDrops_9 (by decide) (fun b1 => ?_) (fun b1 => ?_)
  · refine lv_aload_n hx hb dX9_meanDrops_22 rfl (lv_at hl 1 rfl) ?_
    refine zg7_0 X hK hO m_311 dX9_meanDrops_23 ?_
    refine zcallRV (As := []) (rest := []) X hml hK hW (ctX5_sumOfGoodDrops l D cy ad σ hV) zmX5_sumOfGoodDrops (by decide) m_1206 (zrecv hK (hW 0 0 rfl (by decide)) rfl) ⟨Nat.le_of_ble_eq_true rfl, Nat.le_of_ble_eq_true rfl⟩ ⟨Nat.le_of_ble_eq_true rfl, Nat.le_of_ble_eq_true rfl⟩ rfl hl.1 rfl (Nat.le_of_ble_eq_true rfl) dX9_meanDrops_26 ?_
    refine lv_i2d hx hb dX9_meanDrops_29 ?_
    refine lv_iload_n hx hb dX9_meanDrops_30 rfl (lv_at hl 0 rfl) ?_
    refine lv_i2d hx hb dX9_meanDrops_31 ?_
    refine lv_ddiv hx hb dX9_meanDrops_32 (zn_d b1) ?_
    exact zx_d hx hb hr hlocks (show k_none σ = 0 from (by rw [k_none, if_neg b1])) rfl ⟨hO, hW, hWD⟩ va_S.rf (Nat.le_of_ble_eq_true rfl) (Nat.le_of_ble_eq_true rfl) dX9_meanDrops_33
  · have hrr : k_none σ = 6 := (by rw [k_none, if_pos b1])
    exact zthS (cls := zxc 6) (text := "no canopies") X hl0 hE va_S.rf (fun _ _ => rfl) zfit_6 m_1155 m_26 zat_6 (by simp [zstr]) hml hl.1 dX9_meanDrops_12 dX9_meanDrops_15 dX9_meanDrops_16 dX9_meanDrops_18 dX9_meanDrops_21 hex hlocks ⟨Nat.le_of_ble_eq_true rfl, Nat.le_of_ble_eq_true rfl⟩ (Nat.le_of_ble_eq_true rfl) ⟨Nat.le_of_ble_eq_true rfl, Nat.le_of_ble_eq_true rfl⟩ (Nat.le_of_ble_eq_true rfl) (Nat.le_of_ble_eq_true rfl) (by rw [hrr]; decide) (by rw [hrr])