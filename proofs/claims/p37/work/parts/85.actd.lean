section ZAD
variable {p : Program} {l : Launch} {e : Env} {s : State} {m : MethodId} {args : Array Value} {below : List Frame} {meth : Method} {c : Code} {H : Heap} {locs : List Loc} {cells slots : Nat} {ls : Array Slot} {D : va_G} {cy : Nat → ClassId} {rf : Nat → Nat} {N b L dp : Nat} {xs : Nat → Int32} {ak av : Nat → Nat} {σ δ μ τ σ1 δ1 μ1 τ1 : zS} {K K1 bb c1 a1 j1 k1 e1 : Nat} {V V1 : Nat → Int64} {t1 v1 : Int32} {C : String} {code : ByteArray} {n d mc ms : Nat} {ret : Option FieldType} {y : MethodName}
/-- a method's contract by its body's walk, with cells -/
theorem zmetM {av : List Value} {B : State → Prop} {Qc : Array Value → State → Outcome → State → Prop} {free : Addr → Prop} {lv : List (Nat × Value)} (hy : plainName y.cls = true) (hC : y.cls = C) (hn : (lg_sl av).length ≤ n) (hlv : lv_args 0 av = lv)
    (body : ∀ (p : Program) (e : Env) (s : State) (m : MethodId) (below : List Frame) (meth : Method) (c : Code) (ls : Array Slot), zX p m c s av.toArray C code → c.maxLocals = n → meth.sig.returnType = ret → meth.locks = false → B s → lv_has ls n lv → W p l e (zrx d mc ms) s m av.toArray below meth c s.heap [] 0 0 (MQ below Qc av.toArray s mc ms free) (F0 m 0 ls [])) : Met l y (zw y code n ret) (zrx d mc ms) (va_Pc av B) Qc mc ms free := by
  subst hC
  refine Met.ofW (cc := code) (maxL := n) (ret := ret) hy rfl ?_
  intro p e s m args below meth c s₁ Bd hml hv
  obtain ⟨rfl, hB⟩ := hv
  have hts := atoms_spec (ws := zw y code n ret) Bd.pre
  have hl := lv_entry av (n := n) hn
  rw [hlv] at hl
  rw [lg_entry_eq]
  exact body p e s m below meth c _ ⟨Bd.exec, Bd.bytes, findClass_of_methodNamed Bd.named, fun w h => hts w (List.mem_cons_of_mem _ h)⟩ hml Bd.returns Bd.notSynchronized hB hl

set_option maxRecDepth 100000 in
set_option maxHeartbeats 4000000 in
theorem ctL_acts (l : Launch) (hl0 : l.stackTraces = false) (D : va_G) (cy : Nat → ClassId) (rf : Nat → Nat) (N b L : Nat) (xs : Nat → Int32) (ak av : Nat → Nat) (hL31 : L < 2 ^ 31) (dp : Nat) (hdp : N + 339 ≤ dp) (k1 : Nat) (hk1 : k1 < 10 ^ 6) {K bb : Nat} {V : Nat → Int64} {σ δ μ τ : zS} (hP : zP 4 8 3 K bb V σ δ μ τ) (hK : K + 8 ≤ 512) (hbb : 36 * bb + 36 ≤ 9999) : Met l yL_acts (zw yL_acts cL_acts 11 (some .boolean)) (zrx 10 40 240) (va_Pc [.ref N, .ref b, .int (nI k1), .ref dp] (zBL D cy rf N b L xs ak av (fun H => zSA D cy N (zxb N 0 0) (zxa N) σ (zxd N) δ H ∧ zDp D cy dp V H))) (zqM (some (.int (bI true))) (zAE D cy N dp K bb μ) (zRD N dp)) 40 240 (zRD N dp) := by
  refine zmetM (by decide) rfl (Nat.le_of_ble_eq_true rfl) rfl (fun p e s m below meth c ls X hml hr hlocks hv hl => ?_)
  obtain ⟨C0, hG, hDp⟩ := zBL.cx hv
  obtain ⟨hx, hb, -, -⟩ := id X
  have hl : lv_has ls 11 [(0, .ref N), (1, .ref b), (2, .int (nI k1)), (3, .ref dp)] := hl
  have hA0 : ∀ q, zRD N dp q → zLA N q := fun q h => zRD_N hdp h
  have hS : va_S (zRD N dp) s.heap s.heap [] := va_S.rf
  refine lv_aload_n hx hb dL_acts_0 rfl (lv_at hl 1 rfl) ?_
  refine lv_iload_n hx hb dL_acts_1 rfl (lv_at hl 2 rfl) ?_
  refine lv_iconst (v := 1) hx hb dL_acts_2 (by decide) ?_
  refine lv_iadd hx hb dL_acts_3 ?_
  rw [show ((nI k1) + 1 : Int32) = nI (k1 + 1) from nI_1 k1]
  refine lv_bipush (v := 8) hx hb dL_acts_4 (by decide) ?_
  refine zcallLR (As := [.ref b, .int (nI (k1 + 1)), .int (nI 8)]) (rest := []) X hml C0 hA0 trivial (ctL_pick l D cy rf N b L xs ak av hL31 (k1 + 1) (by omega) 8 (by decide) (by decide)) zmL_pick (by decide) m_637 ⟨(Nat.le_of_ble_eq_true rfl), (Nat.le_of_ble_eq_true rfl)⟩ ⟨by show 0 ≤ 40; omega, by show 0 ≤ 240; omega⟩ rfl hl.1 rfl (Nat.le_of_ble_eq_true rfl) dL_acts_6 hS ?_
  have h_c1 : lpick L xs (k1 + 1) 8 < 8 := lpick_lt 8 (by decide) _
  generalize lpick L xs (k1 + 1) 8 = c1 at h_c1 ⊢
  refine lv_istore (lv' := [(4, .int (nI c1)), (0, .ref N), (1, .ref b), (2, .int (nI k1)), (3, .ref dp)]) hx hb dL_acts_9 hl (by decide) rfl (fun ls hl => ?_)
  refine lv_aload_n hx hb dL_acts_11 rfl (lv_at hl 2 rfl) ?_
  refine lv_iload_n hx hb dL_acts_12 rfl (lv_at hl 3 rfl) ?_
  refine lv_iconst (v := 2) hx hb dL_acts_13 (by decide) ?_
  refine lv_iadd hx hb dL_acts_14 ?_
  rw [show ((nI k1) + 2 : Int32) = nI (k1 + 2) from nI_add k1 2]
  refine lv_iconst (v := 4) hx hb dL_acts_15 (by decide) ?_
  refine zcallLR (As := [.ref b, .int (nI (k1 + 2)), .int (nI 4)]) (rest := []) X hml C0 hA0 trivial (ctL_pick l D cy rf N b L xs ak av hL31 (k1 + 2) (by omega) 4 (by decide) (by decide)) zmL_pick (by decide) m_637 ⟨(Nat.le_of_ble_eq_true rfl), (Nat.le_of_ble_eq_true rfl)⟩ ⟨by show 0 ≤ 40; omega, by show 0 ≤ 240; omega⟩ rfl hl.1 rfl (Nat.le_of_ble_eq_true rfl) dL_acts_16 hS ?_
  have h_a1 : lpick L xs (k1 + 2) 4 < 4 := lpick_lt 4 (by decide) _
  generalize lpick L xs (k1 + 2) 4 = a1 at h_a1 ⊢
  refine lv_istore (lv' := [(5, .int (nI a1)), (4, .int (nI c1)), (0, .ref N), (1, .ref b), (2, .int (nI k1)), (3, .ref dp)]) hx hb dL_acts_19 hl (by decide) rfl (fun ls hl => ?_)
  refine lv_aload_n hx hb dL_acts_21 rfl (lv_at hl 3 rfl) ?_
  refine lv_iload_n hx hb dL_acts_22 rfl (lv_at hl 4 rfl) ?_
  refine lv_iconst (v := 3) hx hb dL_acts_23 (by decide) ?_
  refine lv_iadd hx hb dL_acts_24 ?_
  rw [show ((nI k1) + 3 : Int32) = nI (k1 + 3) from nI_add k1 3]
  refine lv_bipush (v := 6) hx hb dL_acts_25 (by decide) ?_
  refine zcallLR (As := [.ref b, .int (nI (k1 + 3)), .int (nI 6)]) (rest := []) X hml C0 hA0 trivial (ctL_pick l D cy rf N b L xs ak av hL31 (k1 + 3) (by omega) 6 (by decide) (by decide)) zmL_pick (by decide) m_637 ⟨(Nat.le_of_ble_eq_true rfl), (Nat.le_of_ble_eq_true rfl)⟩ ⟨by show 0 ≤ 40; omega, by show 0 ≤ 240; omega⟩ rfl hl.1 rfl (Nat.le_of_ble_eq_true rfl) dL_acts_27 hS ?_
  have h_j1 : lpick L xs (k1 + 3) 6 < 6 := lpick_lt 6 (by decide) _
  generalize lpick L xs (k1 + 3) 6 = j1 at h_j1 ⊢
  refine lv_istore (lv' := [(6, .int (nI j1)), (5, .int (nI a1)), (4, .int (nI c1)), (0, .ref N), (1, .ref b), (2, .int (nI k1)), (3, .ref dp)]) hx hb dL_acts_30 hl (by decide) rfl (fun ls hl => ?_)
  refine lv_aload_n hx hb dL_acts_32 rfl (lv_at hl 3 rfl) ?_
  refine lv_iload hx hb dL_acts_33 (lv_at hl 2 rfl) ?_
  refine zlW (As := [.ref N, .int (nI c1)]) (rest := []) X hml C0 hA0 hG (ctL_stateOf l hl0 D cy rf N (zxb N 0 0) (zxa N) σ (zxd N) δ (nI c1) hP.zv (ra_ch hP _)) zmL_stateOf (by decide) m_846 ⟨(Nat.le_of_ble_eq_true rfl), (Nat.le_of_ble_eq_true rfl)⟩ ⟨by show 0 + 1 ≤ 40; omega, by show 0 + 6 ≤ 240; omega⟩ rfl hl.1 rfl (Nat.le_of_ble_eq_true rfl) dL_acts_35 hS (fun q h => h.elim) (fun H locs hG hsz hfr hS => ?_)
  replace hDp := va_at.kept hDp (hfr dp (va_at.lt hDp) (fun z => z))
  rw [ra_st hP h_c1]
  refine lv_i2c (v := zA μ 38 0 c1) hx hb dL_acts_38 (st_c hP h_c1) ?_
  refine lv_istore (lv' := [(7, .int (zA μ 38 0 c1)), (6, .int (nI j1)), (5, .int (nI a1)), (4, .int (nI c1)), (0, .ref N), (1, .ref b), (2, .int (nI k1)), (3, .ref dp)]) hx hb dL_acts_39 hl (by decide) rfl (fun ls hl => ?_)
  refine lv_aload_n hx hb dL_acts_41 rfl (lv_at hl 5 rfl) ?_
  refine lv_iload_n hx hb dL_acts_42 rfl (lv_at hl 6 rfl) ?_
  refine lv_bipush (v := 16) hx hb dL_acts_43 (by decide) ?_
  refine zcallLR (As := [.ref b, .int (nI k1), .int (nI 16)]) (rest := []) X hml C0 hA0 trivial (ctL_pick l D cy rf N b L xs ak av hL31 k1 (by omega) 16 (by decide) (by decide)) zmL_pick (by decide) m_637 ⟨(Nat.le_of_ble_eq_true rfl), (Nat.le_of_ble_eq_true rfl)⟩ ⟨by show 0 + 1 ≤ 40; omega, by show 0 + 6 ≤ 240; omega⟩ rfl hl.1 rfl (Nat.le_of_ble_eq_true rfl) dL_acts_45 hS ?_
  have h_q1 : lpick L xs k1 16 < 16 := lpick_lt 16 (by decide) _
  generalize lpick L xs k1 16 = q1 at h_q1 ⊢
  rcases (show q1 = 0 ∨ q1 = 1 ∨ q1 = 2 ∨ q1 = 3 ∨ q1 = 4 ∨ q1 = 5 ∨ q1 = 6 ∨ q1 = 7 ∨ q1 = 8 ∨ q1 = 9 ∨ q1 = 10 ∨ q1 = 11 ∨ q1 = 12 ∨ q1 = 13 ∨ q1 = 14 ∨ q1 = 15 by omega) with rfl | rfl | rfl | rfl | rfl | rfl | rfl | rfl | rfl | rfl | rfl | rfl | rfl | rfl | rfl | rfl
  · refine lv_tableIn (off := 76) (tgt := 124) hx hb dL_acts_48 (by decide) (by decide) rfl (by decide) ?_
    exact zac_124 X hml hr hlocks hl0 hL31 C0 hdp h_c1 h_a1 h_j1 hK hbb hP hG hDp hS (lv_sub hl [0, 1, 2, 3, 4, 5, 6, 7] rfl) (by omega) (by omega)
  · refine lv_tableIn (off := 76) (tgt := 124) hx hb dL_acts_48 (by decide) (by decide) rfl (by decide) ?_
    exact zac_124 X hml hr hlocks hl0 hL31 C0 hdp h_c1 h_a1 h_j1 hK hbb hP hG hDp hS (lv_sub hl [0, 1, 2, 3, 4, 5, 6, 7] rfl) (by omega) (by omega)
  · refine lv_tableIn (off := 76) (tgt := 124) hx hb dL_acts_48 (by decide) (by decide) rfl (by decide) ?_
    exact zac_124 X hml hr hlocks hl0 hL31 C0 hdp h_c1 h_a1 h_j1 hK hbb hP hG hDp hS (lv_sub hl [0, 1, 2, 3, 4, 5, 6, 7] rfl) (by omega) (by omega)
  · refine lv_tableIn (off := 76) (tgt := 124) hx hb dL_acts_48 (by decide) (by decide) rfl (by decide) ?_
    exact zac_124 X hml hr hlocks hl0 hL31 C0 hdp h_c1 h_a1 h_j1 hK hbb hP hG hDp hS (lv_sub hl [0, 1, 2, 3, 4, 5, 6, 7] rfl) (by omega) (by omega)
  · refine lv_tableIn (off := 209) (tgt := 257) hx hb dL_acts_48 (by decide) (by decide) rfl (by decide) ?_
    exact zac_257 X hml hr hlocks hl0 hL31 C0 hdp h_c1 h_a1 h_j1 hK hbb hP hG hDp hS (lv_sub hl [0, 1, 2, 3, 4, 5, 6, 7] rfl) (by omega) (by omega)
  · refine lv_tableIn (off := 262) (tgt := 310) hx hb dL_acts_48 (by decide) (by decide) rfl (by decide) ?_
    exact zac_310 X hml hr hlocks hl0 hL31 C0 hdp h_c1 h_a1 h_j1 hK hbb hP hG hDp hS (lv_sub hl [0, 1, 2, 3, 4, 5, 6, 7] rfl) (by omega) (by omega)
  · refine lv_tableIn (off := 338) (tgt := 386) hx hb dL_acts_48 (by decide) (by decide) rfl (by decide) ?_
    exact zac_386 X hml hr hlocks hl0 hL31 C0 hdp h_c1 h_a1 h_j1 hK hbb hP hG hDp hS (lv_sub hl [0, 1, 2, 3, 4, 5, 6, 7] rfl) (by omega) (by omega)
  · refine lv_tableIn (off := 386) (tgt := 434) hx hb dL_acts_48 (by decide) (by decide) rfl (by decide) ?_
    exact zac_434 X hml hr hlocks hl0 hL31 C0 hdp h_c1 h_a1 h_j1 hK hbb hP hG hDp hS (lv_sub hl [0, 1, 2, 3, 4, 5, 6, 7] rfl) (by omega) (by omega)
  · refine lv_tableIn (off := 403) (tgt := 451) hx hb dL_acts_48 (by decide) (by decide) rfl (by decide) ?_
    exact zac_451 X hml hr hlocks hl0 hL31 C0 hdp h_c1 h_a1 h_j1 hK hbb hP hG hDp hS (lv_sub hl [0, 1, 2, 3, 4, 5, 6, 7] rfl) (by omega) (by omega)
  · refine lv_tableIn (off := 403) (tgt := 451) hx hb dL_acts_48 (by decide) (by decide) rfl (by decide) ?_
    exact zac_451 X hml hr hlocks hl0 hL31 C0 hdp h_c1 h_a1 h_j1 hK hbb hP hG hDp hS (lv_sub hl [0, 1, 2, 3, 4, 5, 6, 7] rfl) (by omega) (by omega)
  · refine lv_tableIn (off := 488) (tgt := 536) hx hb dL_acts_48 (by decide) (by decide) rfl (by decide) ?_
    exact zac_536 X hml hr hlocks hl0 hL31 C0 hdp h_c1 h_a1 h_j1 hK hbb hP hG hDp hS (lv_sub hl [0, 1, 2, 3, 4, 5, 6, 7] rfl) (by omega) (by omega)
  · refine lv_tableIn (off := 523) (tgt := 571) hx hb dL_acts_48 (by decide) (by decide) rfl (by decide) ?_
    exact zac_571 X hml hr hlocks hl0 hL31 C0 hdp h_c1 h_a1 h_j1 hK hbb hP hG hDp hS (lv_sub hl [0, 1, 2, 3, 4, 5, 6, 7] rfl) (by omega) (by omega)
  · refine lv_tableIn (off := 564) (tgt := 612) hx hb dL_acts_48 (by decide) (by decide) rfl (by decide) ?_
    exact zac_612 X hml hr hlocks hl0 hL31 C0 hdp h_c1 h_a1 h_j1 hK hbb hP hG hDp hS (lv_sub hl [0, 1, 2, 3, 4, 5, 6, 7] rfl) (by omega) (by omega)
  · refine lv_tableIn (off := 602) (tgt := 650) hx hb dL_acts_48 (by decide) (by decide) rfl (by decide) ?_
    exact zac_650 X hml hr hlocks hl0 hL31 C0 hdp h_c1 h_a1 h_j1 hK hbb hP hG hDp hS (lv_sub hl [0, 1, 2, 3, 4, 5, 6, 7] rfl) (by omega) (by omega)
  · refine lv_tableIn (off := 650) (tgt := 698) hx hb dL_acts_48 (by decide) (by decide) rfl (by decide) ?_
    exact zac_698 X hml hr hlocks hl0 hL31 C0 hdp h_c1 h_a1 h_j1 hK hbb hP hG hDp hS (lv_sub hl [0, 1, 2, 3, 4, 5, 6, 7] rfl) (by omega) (by omega)
  · refine lv_tableOut (tgt := 860) hx hb dL_acts_48 (by decide) (by decide) ?_
    exact zac_860 X hml hr hlocks hl0 hL31 C0 hdp h_c1 h_a1 h_j1 hK hbb hP hG hDp hS (lv_sub hl [0, 1, 2, 3, 4, 5, 6, 7] rfl) (by omega) (by omega)
end ZAD
