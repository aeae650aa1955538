section ZCS
variable {p : Program} {l : Launch} {e : Env} {s : State} {m : MethodId} {args : Array Value} {below : List Frame} {meth : Method} {c : Code} {H : Heap} {locs : List Loc} {cells slots : Nat} {Q : State → Prop} {ls : Array Slot} {D : va_G} {cy : Nat → ClassId} {rf : Nat → Nat} {b L N : Nat} {xs : Nat → Int32} {i : Int32} {H0 : Heap} {σ ρ δ μ τ : zS} {w : Int64} {v : UInt64}

set_option maxRecDepth 100000 in
set_option maxHeartbeats 4000000 in
theorem zcs_1 (C : zlC p l s m c args D cy rf N b L xs H0) (hin : ∀ j : Int32, j = 1 ∨ j = 2 ∨ j = 3 ∨ j = 4 → vp_in (i + j) L) (hL : zLH D cy N σ ρ δ μ w v H) (sim : zsim σ μ τ) (mod : ymod μ τ) (his : zhist δ μ τ) (hN : zn τ 512 < 512) (hS : va_S (zLA N) H0 H locs) (hl : lv_has ls 9 [(5, .int i), (4, .ref (N + 379)), (3, .ref (N + 378)), (2, .ref (zxm N 30 0)), (1, .ref N), (0, .ref b)]) (hcs : cells + 2 ≤ 603072 ∧ slots + 12 ≤ 7223402) (kk : zlK p l e s m args below meth c Q D cy N b i H0 (zn τ 512 + 1) (cells + 2) (slots + 12)) : W p l e room_1 s m args below meth c H locs cells slots Q (F0 m 264 ls []) := by
  obtain ⟨X, hml, hK, hE, hNc, hX, hbH, hbN, hl0⟩ := id C
  obtain ⟨hx, hb, -, -⟩ := id X
  have hbA : ¬ zLA N b := fun z => absurd hbN (Nat.not_lt.mpr z)
  have hV := sim.V mod
  have hyV := mod.V
  have hfull := zl_full his hN
  obtain ⟨e838, eP, τ1, ht1, sim1, mod1, his1⟩ := act_post (za_1 mod hN (xs (i + 1).toNatClampNeg) (xs (i + 2).toNatClampNeg) (xs (i + 3).toNatClampNeg)) sim mod his hN
  refine lv_aload_n hx hb dL_law_264 rfl (lv_at hl 4 rfl) ?_
  refine lv_aload_n hx hb dL_law_265 rfl (lv_at hl 5 rfl) ?_
  refine lv_iload hx hb dL_law_266 (lv_at hl 0 rfl) ?_
  refine lv_iconst (v := 1) hx hb dL_law_268 (by decide) ?_
  refine lv_iadd hx hb dL_law_269 ?_
  refine va_sld hx hb hX hbH hbA hS (hin _ (by decide)) dL_law_270 ?_
  refine lv_aload_n hx hb dL_law_271 rfl (lv_at hl 5 rfl) ?_
  refine lv_iload hx hb dL_law_272 (lv_at hl 0 rfl) ?_
  refine lv_iconst (v := 2) hx hb dL_law_274 (by decide) ?_
  refine lv_iadd hx hb dL_law_275 ?_
  refine va_sld hx hb hX hbH hbA hS (hin _ (by decide)) dL_law_276 ?_
  refine lv_aload_n hx hb dL_law_277 rfl (lv_at hl 5 rfl) ?_
  refine lv_iload hx hb dL_law_278 (lv_at hl 0 rfl) ?_
  refine lv_iconst (v := 3) hx hb dL_law_280 (by decide) ?_
  refine lv_iadd hx hb dL_law_281 ?_
  refine va_sld hx hb hX hbH hbA hS (hin _ (by decide)) dL_law_282 ?_
  refine lv_aload_n hx hb dL_law_283 rfl (lv_at hl 2 rfl) ?_
  refine zlW (As := [.ref N, .int (xs (i + 1).toNatClampNeg), .int (xs (i + 2).toNatClampNeg), .int (xs (i + 3).toNatClampNeg), .ref (N + 378)]) (rest := []) X hml hK hE hNc hL (ctL_setLicences l hl0 D cy rf N (zxb N 0 0) (zxa N) σ (zxd N) δ zu_J (N + 378) w zu_ob (xs (i + 1).toNatClampNeg) (xs (i + 2).toNatClampNeg) (xs (i + 3).toNatClampNeg) hV his.1 hfull) zmL_setLicences (by decide) m_793 ⟨Nat.le_of_ble_eq_true rfl, Nat.le_of_ble_eq_true rfl⟩ ⟨by show _ ≤ 603072; omega, by show _ ≤ 7223402; omega⟩ rfl hl.1 rfl (Nat.le_of_ble_eq_true rfl) dL_law_284 hS (fun H locs hL hS => ?_)
  refine lv_istore (lv' := [(6, .int (zkc [1, 2] (k_ref σ (nI 1) (xs (i + 1).toNatClampNeg) (xs (i + 2).toNatClampNeg) (xs (i + 3).toNatClampNeg) 0))), (5, .int i), (4, .ref (N + 379)), (3, .ref (N + 378)), (2, .ref (zxm N 30 0)), (1, .ref N), (0, .ref b)]) hx hb dL_law_287 hl (by decide) rfl (fun ls hl => ?_)
  refine lv_aload_n hx hb dL_law_289 rfl (lv_at hl 4 rfl) ?_
  refine lv_aload_n hx hb dL_law_290 rfl (lv_at hl 6 rfl) ?_
  refine lv_iload hx hb dL_law_291 (lv_at hl 1 rfl) ?_
  refine lv_iconst (v := 1) hx hb dL_law_293 (by decide) ?_
  refine lv_iadd hx hb dL_law_294 ?_
  refine va_sld hx hb hX hbH hbA hS (hin _ (by decide)) dL_law_295 ?_
  refine lv_aload_n hx hb dL_law_296 rfl (lv_at hl 6 rfl) ?_
  refine lv_iload hx hb dL_law_297 (lv_at hl 1 rfl) ?_
  refine lv_iconst (v := 2) hx hb dL_law_299 (by decide) ?_
  refine lv_iadd hx hb dL_law_300 ?_
  refine va_sld hx hb hX hbH hbA hS (hin _ (by decide)) dL_law_301 ?_
  refine lv_aload_n hx hb dL_law_302 rfl (lv_at hl 6 rfl) ?_
  refine lv_iload hx hb dL_law_303 (lv_at hl 1 rfl) ?_
  refine lv_iconst (v := 3) hx hb dL_law_305 (by decide) ?_
  refine lv_iadd hx hb dL_law_306 ?_
  refine va_sld hx hb hX hbH hbA hS (hin _ (by decide)) dL_law_307 ?_
  refine zlM (As := [.int (xs (i + 1).toNatClampNeg), .int (xs (i + 2).toNatClampNeg), .int (xs (i + 3).toNatClampNeg)]) (rest := []) X hml hK hL (ctX10_setLicences l D cy (zxm N) μ zu_jm (xs (i + 1).toNatClampNeg) (xs (i + 2).toNatClampNeg) (xs (i + 3).toNatClampNeg) hyV) zmX10_setLicences (by decide) m_1270 ⟨Nat.le_of_ble_eq_true rfl, Nat.le_of_ble_eq_true rfl⟩ ⟨by show _ ≤ 603072; omega, by show _ ≤ 7223402; omega⟩ rfl hl.1 rfl (Nat.le_of_ble_eq_true rfl) dL_law_308 hS (fun H locs hL hS => ?_)
  refine lv_istore (lv' := [(7, .int (r_X10_setLicences μ (xs (i + 1).toNatClampNeg) (xs (i + 2).toNatClampNeg) (xs (i + 3).toNatClampNeg))), (6, .int (zkc [1, 2] (k_ref σ (nI 1) (xs (i + 1).toNatClampNeg) (xs (i + 2).toNatClampNeg) (xs (i + 3).toNatClampNeg) 0))), (5, .int i), (4, .ref (N + 379)), (3, .ref (N + 378)), (2, .ref (zxm N 30 0)), (1, .ref N), (0, .ref b)]) hx hb dL_law_311 hl (by decide) rfl (fun ls hl => ?_)
  refine lv_aload_n hx hb dL_law_313 rfl (lv_at hl 5 rfl) ?_
  refine zlT (rest := []) X hml hK hL m_1251 ⟨Nat.le_of_ble_eq_true rfl, Nat.le_of_ble_eq_true rfl⟩ ⟨by show _ ≤ 603072; omega, by show _ ≤ 7223402; omega⟩ hl.1 (Nat.le_of_ble_eq_true rfl) dL_law_314 ?_
  refine lv_iload hx hb dL_law_317 (lv_at hl 1 rfl) ?_
  refine lv_icmp_eq (tgt := 324) hx hb dL_law_319 (by decide) (fun _ => ?_) (fun z => absurd e838 z)
  refine lv_iload hx hb dL_law_324 (lv_at hl 1 rfl) ?_
  refine lv_if_ne (tgt := 341) hx hb dL_law_326 (by decide) (fun _ => ?_) (fun z => ?_)
  · refine lv_goto (tgt := 2283) hx hb dL_law_341 (by decide) ?_
    exact kk _ _ _ _ _ _ _ _ _ _ _ _ hL sim1 mod1 his1 ht1 hS (lv_sub hl [2, 3, 4, 5, 6, 7] rfl) (by omega) (by omega)
  · have h0 := zkc_0 (by decide) z
    have hP := eP h0
    refine lv_aload_n hx hb dL_law_329 rfl (lv_at hl 4 rfl) ?_
    refine lv_iconst (v := 0) hx hb dL_law_330 (by decide) ?_
    refine zlO X hK hL dL_law_331 ?_
    refine lv_iload hx hb dL_law_332 (lv_at hl 0 rfl) ?_
    refine lv_i2l hx hb dL_law_334 rfl ?_
    refine W.lcmp hx hb dL_law_335 ?_
    refine lv_if_eq (tgt := 341) hx hb dL_law_336 (by decide) (fun _ => ?_) (fun z => absurd ((lg_cmp_eq _ _).mpr ((if_pos h0).trans (congrArg Int32.toInt64 hP.symm))) z)
    refine lv_goto (tgt := 2283) hx hb dL_law_341 (by decide) ?_
    exact kk _ _ _ _ _ _ _ _ _ _ _ _ hL sim1 mod1 his1 ht1 hS (lv_sub hl [2, 3, 4, 5, 6, 7] rfl) (by omega) (by omega)
set_option maxRecDepth 100000 in
set_option maxHeartbeats 4000000 in
theorem zcs_3 (C : zlC p l s m c args D cy rf N b L xs H0) (hin : ∀ j : Int32, j = 1 ∨ j = 2 ∨ j = 3 ∨ j = 4 → vp_in (i + j) L) (hL : zLH D cy N σ ρ δ μ w v H) (sim : zsim σ μ τ) (mod : ymod μ τ) (his : zhist δ μ τ) (hN : zn τ 512 < 512) (hS : va_S (zLA N) H0 H locs) (hl : lv_has ls 9 [(5, .int i), (4, .ref (N + 379)), (3, .ref (N + 378)), (2, .ref (zxm N 30 0)), (1, .ref N), (0, .ref b)]) (hcs : cells + 2 ≤ 603072 ∧ slots + 12 ≤ 7223402) (kk : zlK p l e s m args below meth c Q D cy N b i H0 (zn τ 512 + 1) (cells + 2) (slots + 12)) : W p l e room_1 s m args below meth c H locs cells slots Q (F0 m 438 ls []) := by
  obtain ⟨X, hml, hK, hE, hNc, hX, hbH, hbN, hl0⟩ := id C
  obtain ⟨hx, hb, -, -⟩ := id X
  have hbA : ¬ zLA N b := fun z => absurd hbN (Nat.not_lt.mpr z)
  have hV := sim.V mod
  have hyV := mod.V
  have hfull := zl_full his hN
  obtain ⟨e838, eP, τ1, ht1, sim1, mod1, his1⟩ := act_post (za_3 mod hN (xs (i + 1).toNatClampNeg)) sim mod his hN
  refine lv_aload_n hx hb dL_law_438 rfl (lv_at hl 4 rfl) ?_
  refine lv_aload_n hx hb dL_law_439 rfl (lv_at hl 5 rfl) ?_
  refine lv_iload hx hb dL_law_440 (lv_at hl 0 rfl) ?_
  refine lv_iconst (v := 1) hx hb dL_law_442 (by decide) ?_
  refine lv_iadd hx hb dL_law_443 ?_
  refine va_sld hx hb hX hbH hbA hS (hin _ (by decide)) dL_law_444 ?_
  refine lv_aload_n hx hb dL_law_445 rfl (lv_at hl 2 rfl) ?_
  refine zlW (As := [.ref N, .int (xs (i + 1).toNatClampNeg), .ref (N + 378)]) (rest := []) X hml hK hE hNc hL (ctL_setPeriod l hl0 D cy rf N (zxb N 0 0) (zxa N) σ (zxd N) δ zu_J (N + 378) w zu_ob (xs (i + 1).toNatClampNeg) hV his.1 hfull) zmL_setPeriod (by decide) m_828 ⟨Nat.le_of_ble_eq_true rfl, Nat.le_of_ble_eq_true rfl⟩ ⟨by show _ ≤ 603072; omega, by show _ ≤ 7223402; omega⟩ rfl hl.1 rfl (Nat.le_of_ble_eq_true rfl) dL_law_446 hS (fun H locs hL hS => ?_)
  refine lv_istore (lv' := [(6, .int (zkc [2] (k_ref σ (nI 3) (xs (i + 1).toNatClampNeg) 0 0 0))), (5, .int i), (4, .ref (N + 379)), (3, .ref (N + 378)), (2, .ref (zxm N 30 0)), (1, .ref N), (0, .ref b)]) hx hb dL_law_449 hl (by decide) rfl (fun ls hl => ?_)
  refine lv_aload_n hx hb dL_law_451 rfl (lv_at hl 4 rfl) ?_
  refine lv_aload_n hx hb dL_law_452 rfl (lv_at hl 6 rfl) ?_
  refine lv_iload hx hb dL_law_453 (lv_at hl 1 rfl) ?_
  refine lv_iconst (v := 1) hx hb dL_law_455 (by decide) ?_
  refine lv_iadd hx hb dL_law_456 ?_
  refine va_sld hx hb hX hbH hbA hS (hin _ (by decide)) dL_law_457 ?_
  refine zlM (As := [.int (xs (i + 1).toNatClampNeg)]) (rest := []) X hml hK hL (ctX10_setPeriod l D cy (zxm N) μ zu_jm (xs (i + 1).toNatClampNeg)) zmX10_setPeriod (by decide) m_1282 ⟨Nat.le_of_ble_eq_true rfl, Nat.le_of_ble_eq_true rfl⟩ ⟨by show _ ≤ 603072; omega, by show _ ≤ 7223402; omega⟩ rfl hl.1 rfl (Nat.le_of_ble_eq_true rfl) dL_law_458 hS (fun H locs hL hS => ?_)
  refine lv_istore (lv' := [(7, .int (r_X10_setPeriod μ (xs (i + 1).toNatClampNeg))), (6, .int (zkc [2] (k_ref σ (nI 3) (xs (i + 1).toNatClampNeg) 0 0 0))), (5, .int i), (4, .ref (N + 379)), (3, .ref (N + 378)), (2, .ref (zxm N 30 0)), (1, .ref N), (0, .ref b)]) hx hb dL_law_461 hl (by decide) rfl (fun ls hl => ?_)
  refine lv_aload_n hx hb dL_law_463 rfl (lv_at hl 5 rfl) ?_
  refine zlT (rest := []) X hml hK hL m_1251 ⟨Nat.le_of_ble_eq_true rfl, Nat.le_of_ble_eq_true rfl⟩ ⟨by show _ ≤ 603072; omega, by show _ ≤ 7223402; omega⟩ hl.1 (Nat.le_of_ble_eq_true rfl) dL_law_464 ?_
  refine lv_iload hx hb dL_law_467 (lv_at hl 1 rfl) ?_
  refine lv_icmp_eq (tgt := 474) hx hb dL_law_469 (by decide) (fun _ => ?_) (fun z => absurd e838 z)
  refine lv_iload hx hb dL_law_474 (lv_at hl 1 rfl) ?_
  refine lv_if_ne (tgt := 491) hx hb dL_law_476 (by decide) (fun _ => ?_) (fun z => ?_)
  · refine lv_goto (tgt := 2283) hx hb dL_law_491 (by decide) ?_
    exact kk _ _ _ _ _ _ _ _ _ _ _ _ hL sim1 mod1 his1 ht1 hS (lv_sub hl [2, 3, 4, 5, 6, 7] rfl) (by omega) (by omega)
  · have h0 := zkc_0 (by decide) z
    have hP := eP h0
    refine lv_aload_n hx hb dL_law_479 rfl (lv_at hl 4 rfl) ?_
    refine lv_iconst (v := 0) hx hb dL_law_480 (by decide) ?_
    refine zlO X hK hL dL_law_481 ?_
    refine lv_iload hx hb dL_law_482 (lv_at hl 0 rfl) ?_
    refine lv_i2l hx hb dL_law_484 rfl ?_
    refine W.lcmp hx hb dL_law_485 ?_
    refine lv_if_eq (tgt := 491) hx hb dL_law_486 (by decide) (fun _ => ?_) (fun z => absurd ((lg_cmp_eq _ _).mpr ((if_pos h0).trans (congrArg Int32.toInt64 hP.symm))) z)
    refine lv_goto (tgt := 2283) hx hb dL_law_491 (by decide) ?_
    exact kk _ _ _ _ _ _ _ _ _ _ _ _ hL sim1 mod1 his1 ht1 hS (lv_sub hl [2, 3, 4, 5, 6, 7] rfl) (by omega) (by omega)
set_option maxRecDepth 100000 in
set_option maxHeartbeats 4000000 in
theorem zcs_4 (C : zlC p l s m c args D cy rf N b L xs H0) (hin : ∀ j : Int32, j = 1 ∨ j = 2 ∨ j = 3 ∨ j = 4 → vp_in (i + j) L) (hL : zLH D cy N σ ρ δ μ w v H) (sim : zsim σ μ τ) (mod : ymod μ τ) (his : zhist δ μ τ) (hN : zn τ 512 < 512) (hS : va_S (zLA N) H0 H locs) (hl : lv_has ls 9 [(5, .int i), (4, .ref (N + 379)), (3, .ref (N + 378)), (2, .ref (zxm N 30 0)), (1, .ref N), (0, .ref b)]) (hcs : cells + 2 ≤ 603072 ∧ slots + 12 ≤ 7223402) (kk : zlK p l e s m args below meth c Q D cy N b i H0 (zn τ 512 + 1) (cells + 2) (slots + 12)) : W p l e room_1 s m args below meth c H locs cells slots Q (F0 m 494 ls []) := by
  obtain ⟨X, hml, hK, hE, hNc, hX, hbH, hbN, hl0⟩ := id C
  obtain ⟨hx, hb, -, -⟩ := id X
  have hbA : ¬ zLA N b := fun z => absurd hbN (Nat.not_lt.mpr z)
  have hV := sim.V mod
  have hyV := mod.V
  have hfull := zl_full his hN
  obtain ⟨e838, eP, τ1, ht1, sim1, mod1, his1⟩ := act_post (za_4 mod hN (xs (i + 1).toNatClampNeg)) sim mod his hN
  refine lv_aload_n hx hb dL_law_494 rfl (lv_at hl 4 rfl) ?_
  refine lv_aload_n hx hb dL_law_495 rfl (lv_at hl 5 rfl) ?_
  refine lv_iload hx hb dL_law_496 (lv_at hl 0 rfl) ?_
  refine lv_iconst (v := 1) hx hb dL_law_498 (by decide) ?_
  refine lv_iadd hx hb dL_law_499 ?_
  refine va_sld hx hb hX hbH hbA hS (hin _ (by decide)) dL_law_500 ?_
  refine lv_aload_n hx hb dL_law_501 rfl (lv_at hl 2 rfl) ?_
  refine zlW (As := [.ref N, .int (xs (i + 1).toNatClampNeg), .ref (N + 378)]) (rest := []) X hml hK hE hNc hL (ctL_goOn l hl0 D cy rf N (zxb N 0 0) (zxa N) σ (zxd N) δ zu_J (N + 378) w zu_ob (xs (i + 1).toNatClampNeg) hV his.1 hfull) zmL_goOn (by decide) m_835 ⟨Nat.le_of_ble_eq_true rfl, Nat.le_of_ble_eq_true rfl⟩ ⟨by show _ ≤ 603072; omega, by show _ ≤ 7223402; omega⟩ rfl hl.1 rfl (Nat.le_of_ble_eq_true rfl) dL_law_502 hS (fun H locs hL hS => ?_)
  refine lv_istore (lv' := [(6, .int (zkc [2, 4] (k_ref σ (nI 4) (xs (i + 1).toNatClampNeg) 0 0 0))), (5, .int i), (4, .ref (N + 379)), (3, .ref (N + 378)), (2, .ref (zxm N 30 0)), (1, .ref N), (0, .ref b)]) hx hb dL_law_505 hl (by decide) rfl (fun ls hl => ?_)
  refine lv_aload_n hx hb dL_law_507 rfl (lv_at hl 4 rfl) ?_
  refine lv_aload_n hx hb dL_law_508 rfl (lv_at hl 6 rfl) ?_
  refine lv_iload hx hb dL_law_509 (lv_at hl 1 rfl) ?_
  refine lv_iconst (v := 1) hx hb dL_law_511 (by decide) ?_
  refine lv_iadd hx hb dL_law_512 ?_
  refine va_sld hx hb hX hbH hbA hS (hin _ (by decide)) dL_law_513 ?_
  refine zlM (As := [.int (xs (i + 1).toNatClampNeg)]) (rest := []) X hml hK hL (ctX10_goOn l D cy (zxm N) μ zu_jm (xs (i + 1).toNatClampNeg)) zmX10_goOn (by decide) m_1286 ⟨Nat.le_of_ble_eq_true rfl, Nat.le_of_ble_eq_true rfl⟩ ⟨by show _ ≤ 603072; omega, by show _ ≤ 7223402; omega⟩ rfl hl.1 rfl (Nat.le_of_ble_eq_true rfl) dL_law_514 hS (fun H locs hL hS => ?_)
  refine lv_istore (lv' := [(7, .int (r_X10_goOn μ (xs (i + 1).toNatClampNeg))), (6, .int (zkc [2, 4] (k_ref σ (nI 4) (xs (i + 1).toNatClampNeg) 0 0 0))), (5, .int i), (4, .ref (N + 379)), (3, .ref (N + 378)), (2, .ref (zxm N 30 0)), (1, .ref N), (0, .ref b)]) hx hb dL_law_517 hl (by decide) rfl (fun ls hl => ?_)
  refine lv_aload_n hx hb dL_law_519 rfl (lv_at hl 5 rfl) ?_
  refine zlT (rest := []) X hml hK hL m_1251 ⟨Nat.le_of_ble_eq_true rfl, Nat.le_of_ble_eq_true rfl⟩ ⟨by show _ ≤ 603072; omega, by show _ ≤ 7223402; omega⟩ hl.1 (Nat.le_of_ble_eq_true rfl) dL_law_520 ?_
  refine lv_iload hx hb dL_law_523 (lv_at hl 1 rfl) ?_
  refine lv_icmp_eq (tgt := 530) hx hb dL_law_525 (by decide) (fun _ => ?_) (fun z => absurd e838 z)
  refine lv_iload hx hb dL_law_530 (lv_at hl 1 rfl) ?_
  refine lv_if_ne (tgt := 547) hx hb dL_law_532 (by decide) (fun _ => ?_) (fun z => ?_)
  · refine lv_goto (tgt := 2283) hx hb dL_law_547 (by decide) ?_
    exact kk _ _ _ _ _ _ _ _ _ _ _ _ hL sim1 mod1 his1 ht1 hS (lv_sub hl [2, 3, 4, 5, 6, 7] rfl) (by omega) (by omega)
  · have h0 := zkc_0 (by decide) z
    have hP := eP h0
    refine lv_aload_n hx hb dL_law_535 rfl (lv_at hl 4 rfl) ?_
    refine lv_iconst (v := 0) hx hb dL_law_536 (by decide) ?_
    refine zlO X hK hL dL_law_537 ?_
    refine lv_iload hx hb dL_law_538 (lv_at hl 0 rfl) ?_
    refine lv_i2l hx hb dL_law_540 rfl ?_
    refine W.lcmp hx hb dL_law_541 ?_
    refine lv_if_eq (tgt := 547) hx hb dL_law_542 (by decide) (fun _ => ?_) (fun z => absurd ((lg_cmp_eq _ _).mpr ((if_pos h0).trans (congrArg Int32.toInt64 hP.symm))) z)
    refine lv_goto (tgt := 2283) hx hb dL_law_547 (by decide) ?_
    exact kk _ _ _ _ _ _ _ _ _ _ _ _ hL sim1 mod1 his1 ht1 hS (lv_sub hl [2, 3, 4, 5, 6, 7] rfl) (by omega) (by omega)
set_option maxRecDepth 100000 in
set_option maxHeartbeats 4000000 in
theorem zcs_5 (C : zlC p l s m c args D cy rf N b L xs H0) (hin : ∀ j : Int32, j = 1 ∨ j = 2 ∨ j = 3 ∨ j = 4 → vp_in (i + j) L) (hL : zLH D cy N σ ρ δ μ w v H) (sim : zsim σ μ τ) (mod : ymod μ τ) (his : zhist δ μ τ) (hN : zn τ 512 < 512) (hS : va_S (zLA N) H0 H locs) (hl : lv_has ls 9 [(5, .int i), (4, .ref (N + 379)), (3, .ref (N + 378)), (2, .ref (zxm N 30 0)), (1, .ref N), (0, .ref b)]) (hcs : cells + 2 ≤ 603072 ∧ slots + 12 ≤ 7223402) (kk : zlK p l e s m args below meth c Q D cy N b i H0 (zn τ 512 + 1) (cells + 2) (slots + 12)) : W p l e room_1 s m args below meth c H locs cells slots Q (F0 m 550 ls []) := by
  obtain ⟨X, hml, hK, hE, hNc, hX, hbH, hbN, hl0⟩ := id C
  obtain ⟨hx, hb, -, -⟩ := id X
  have hbA : ¬ zLA N b := fun z => absurd hbN (Nat.not_lt.mpr z)
  have hV := sim.V mod
  have hyV := mod.V
  have hfull := zl_full his hN
  obtain ⟨e838, eP, τ1, ht1, sim1, mod1, his1⟩ := act_post (za_5 mod hN (xs (i + 1).toNatClampNeg) (xs (i + 2).toNatClampNeg)) sim mod his hN
  refine lv_aload_n hx hb dL_law_550 rfl (lv_at hl 4 rfl) ?_
  refine lv_aload_n hx hb dL_law_551 rfl (lv_at hl 5 rfl) ?_
  refine lv_iload hx hb dL_law_552 (lv_at hl 0 rfl) ?_
  refine lv_iconst (v := 1) hx hb dL_law_554 (by decide) ?_
  refine lv_iadd hx hb dL_law_555 ?_
  refine va_sld hx hb hX hbH hbA hS (hin _ (by decide)) dL_law_556 ?_
  refine lv_aload_n hx hb dL_law_557 rfl (lv_at hl 5 rfl) ?_
  refine lv_iload hx hb dL_law_558 (lv_at hl 0 rfl) ?_
  refine lv_iconst (v := 2) hx hb dL_law_560 (by decide) ?_
  refine lv_iadd hx hb dL_law_561 ?_
  refine va_sld hx hb hX hbH hbA hS (hin _ (by decide)) dL_law_562 ?_
  refine lv_aload_n hx hb dL_law_563 rfl (lv_at hl 2 rfl) ?_
  refine zlW (As := [.ref N, .int (xs (i + 1).toNatClampNeg), .int (xs (i + 2).toNatClampNeg), .ref (N + 378)]) (rest := []) X hml hK hE hNc hL (ctL_hang l hl0 D cy rf N (zxb N 0 0) (zxa N) σ (zxd N) δ zu_J (N + 378) w zu_ob (xs (i + 1).toNatClampNeg) (xs (i + 2).toNatClampNeg) hV his.1 hfull) zmL_hang (by decide) m_842 ⟨Nat.le_of_ble_eq_true rfl, Nat.le_of_ble_eq_true rfl⟩ ⟨by show _ ≤ 603072; omega, by show _ ≤ 7223402; omega⟩ rfl hl.1 rfl (Nat.le_of_ble_eq_true rfl) dL_law_564 hS (fun H locs hL hS => ?_)
  refine lv_istore (lv' := [(6, .int (zkc [1, 2, 3, 4] (k_ref σ (nI 5) (xs (i + 1).toNatClampNeg) (xs (i + 2).toNatClampNeg) 0 0))), (5, .int i), (4, .ref (N + 379)), (3, .ref (N + 378)), (2, .ref (zxm N 30 0)), (1, .ref N), (0, .ref b)]) hx hb dL_law_567 hl (by decide) rfl (fun ls hl => ?_)
  refine lv_aload_n hx hb dL_law_569 rfl (lv_at hl 4 rfl) ?_
  refine lv_aload_n hx hb dL_law_570 rfl (lv_at hl 6 rfl) ?_
  refine lv_iload hx hb dL_law_571 (lv_at hl 1 rfl) ?_
  refine lv_iconst (v := 1) hx hb dL_law_573 (by decide) ?_
  refine lv_iadd hx hb dL_law_574 ?_
  refine va_sld hx hb hX hbH hbA hS (hin _ (by decide)) dL_law_575 ?_
  refine lv_aload_n hx hb dL_law_576 rfl (lv_at hl 6 rfl) ?_
  refine lv_iload hx hb dL_law_577 (lv_at hl 1 rfl) ?_
  refine lv_iconst (v := 2) hx hb dL_law_579 (by decide) ?_
  refine lv_iadd hx hb dL_law_580 ?_
  refine va_sld hx hb hX hbH hbA hS (hin _ (by decide)) dL_law_581 ?_
  refine zlM (As := [.int (xs (i + 1).toNatClampNeg), .int (xs (i + 2).toNatClampNeg)]) (rest := []) X hml hK hL (ctX10_hang l D cy (zxm N) μ zu_jm (xs (i + 1).toNatClampNeg) (xs (i + 2).toNatClampNeg) hyV) zmX10_hang (by decide) m_1290 ⟨Nat.le_of_ble_eq_true rfl, Nat.le_of_ble_eq_true rfl⟩ ⟨by show _ ≤ 603072; omega, by show _ ≤ 7223402; omega⟩ rfl hl.1 rfl (Nat.le_of_ble_eq_true rfl) dL_law_582 hS (fun H locs hL hS => ?_)
  refine lv_istore (lv' := [(7, .int (r_X10_hang μ (xs (i + 1).toNatClampNeg) (xs (i + 2).toNatClampNeg))), (6, .int (zkc [1, 2, 3, 4] (k_ref σ (nI 5) (xs (i + 1).toNatClampNeg) (xs (i + 2).toNatClampNeg) 0 0))), (5, .int i), (4, .ref (N + 379)), (3, .ref (N + 378)), (2, .ref (zxm N 30 0)), (1, .ref N), (0, .ref b)]) hx hb dL_law_585 hl (by decide) rfl (fun ls hl => ?_)
  refine lv_aload_n hx hb dL_law_587 rfl (lv_at hl 5 rfl) ?_
  refine zlT (rest := []) X hml hK hL m_1251 ⟨Nat.le_of_ble_eq_true rfl, Nat.le_of_ble_eq_true rfl⟩ ⟨by show _ ≤ 603072; omega, by show _ ≤ 7223402; omega⟩ hl.1 (Nat.le_of_ble_eq_true rfl) dL_law_588 ?_
  refine lv_iload hx hb dL_law_591 (lv_at hl 1 rfl) ?_
  refine lv_icmp_eq (tgt := 598) hx hb dL_law_593 (by decide) (fun _ => ?_) (fun z => absurd e838 z)
  refine lv_iload hx hb dL_law_598 (lv_at hl 1 rfl) ?_
  refine lv_if_ne (tgt := 615) hx hb dL_law_600 (by decide) (fun _ => ?_) (fun z => ?_)
  · refine lv_goto (tgt := 2283) hx hb dL_law_615 (by decide) ?_
    exact kk _ _ _ _ _ _ _ _ _ _ _ _ hL sim1 mod1 his1 ht1 hS (lv_sub hl [2, 3, 4, 5, 6, 7] rfl) (by omega) (by omega)
  · have h0 := zkc_0 (by decide) z
    have hP := eP h0
    refine lv_aload_n hx hb dL_law_603 rfl (lv_at hl 4 rfl) ?_
    refine lv_iconst (v := 0) hx hb dL_law_604 (by decide) ?_
    refine zlO X hK hL dL_law_605 ?_
    refine lv_iload hx hb dL_law_606 (lv_at hl 0 rfl) ?_
    refine lv_i2l hx hb dL_law_608 rfl ?_
    refine W.lcmp hx hb dL_law_609 ?_
    refine lv_if_eq (tgt := 615) hx hb dL_law_610 (by decide) (fun _ => ?_) (fun z => absurd ((lg_cmp_eq _ _).mpr ((if_pos h0).trans (congrArg Int32.toInt64 hP.symm))) z)
    refine lv_goto (tgt := 2283) hx hb dL_law_615 (by decide) ?_
    exact kk _ _ _ _ _ _ _ _ _ _ _ _ hL sim1 mod1 his1 ht1 hS (lv_sub hl [2, 3, 4, 5, 6, 7] rfl) (by omega) (by omega)
set_option maxRecDepth 100000 in
set_option maxHeartbeats 4000000 in
theorem zcs_7 (C : zlC p l s m c args D cy rf N b L xs H0) (hin : ∀ j : Int32, j = 1 ∨ j = 2 ∨ j = 3 ∨ j = 4 → vp_in (i + j) L) (hL : zLH D cy N σ ρ δ μ w v H) (sim : zsim σ μ τ) (mod : ymod μ τ) (his : zhist δ μ τ) (hN : zn τ 512 < 512) (hS : va_S (zLA N) H0 H locs) (hl : lv_has ls 9 [(5, .int i), (4, .ref (N + 379)), (3, .ref (N + 378)), (2, .ref (zxm N 30 0)), (1, .ref N), (0, .ref b)]) (hcs : cells + 2 ≤ 603072 ∧ slots + 12 ≤ 7223402) (kk : zlK p l e s m args below meth c Q D cy N b i H0 (zn τ 512 + 1) (cells + 2) (slots + 12)) : W p l e room_1 s m args below meth c H locs cells slots Q (F0 m 686 ls []) := by
  obtain ⟨X, hml, hK, hE, hNc, hX, hbH, hbN, hl0⟩ := id C
  obtain ⟨hx, hb, -, -⟩ := id X
  have hbA : ¬ zLA N b := fun z => absurd hbN (Nat.not_lt.mpr z)
  have hV := sim.V mod
  have hyV := mod.V
  have hfull := zl_full his hN
  obtain ⟨e838, eP, τ1, ht1, sim1, mod1, his1⟩ := act_post (za_7 mod hN (xs (i + 1).toNatClampNeg)) sim mod his hN
  refine lv_aload_n hx hb dL_law_686 rfl (lv_at hl 4 rfl) ?_
  refine lv_aload_n hx hb dL_law_687 rfl (lv_at hl 5 rfl) ?_
  refine lv_iload hx hb dL_law_688 (lv_at hl 0 rfl) ?_
  refine lv_iconst (v := 1) hx hb dL_law_690 (by decide) ?_
  refine lv_iadd hx hb dL_law_691 ?_
  refine va_sld hx hb hX hbH hbA hS (hin _ (by decide)) dL_law_692 ?_
  refine lv_aload_n hx hb dL_law_693 rfl (lv_at hl 2 rfl) ?_
  refine zlW (As := [.ref N, .int (xs (i + 1).toNatClampNeg), .ref (N + 378)]) (rest := []) X hml hK hE hNc hL (ctL_breakOff l hl0 D cy rf N (zxb N 0 0) (zxa N) σ (zxd N) δ zu_J (N + 378) w zu_ob (xs (i + 1).toNatClampNeg) hV his.1 hfull) zmL_breakOff (by decide) m_857 ⟨Nat.le_of_ble_eq_true rfl, Nat.le_of_ble_eq_true rfl⟩ ⟨by show _ ≤ 603072; omega, by show _ ≤ 7223402; omega⟩ rfl hl.1 rfl (Nat.le_of_ble_eq_true rfl) dL_law_694 hS (fun H locs hL hS => ?_)
  refine lv_istore (lv' := [(6, .int (zkc [1, 3] (k_ref σ (nI 7) (xs (i + 1).toNatClampNeg) 0 0 0))), (5, .int i), (4, .ref (N + 379)), (3, .ref (N + 378)), (2, .ref (zxm N 30 0)), (1, .ref N), (0, .ref b)]) hx hb dL_law_697 hl (by decide) rfl (fun ls hl => ?_)
  refine lv_aload_n hx hb dL_law_699 rfl (lv_at hl 4 rfl) ?_
  refine lv_aload_n hx hb dL_law_700 rfl (lv_at hl 6 rfl) ?_
  refine lv_iload hx hb dL_law_701 (lv_at hl 1 rfl) ?_
  refine lv_iconst (v := 1) hx hb dL_law_703 (by decide) ?_
  refine lv_iadd hx hb dL_law_704 ?_
  refine va_sld hx hb hX hbH hbA hS (hin _ (by decide)) dL_law_705 ?_
  refine zlM (As := [.int (xs (i + 1).toNatClampNeg)]) (rest := []) X hml hK hL (ctX10_breakOff l D cy (zxm N) μ zu_jm (xs (i + 1).toNatClampNeg) hyV) zmX10_breakOff (by decide) m_1318 ⟨Nat.le_of_ble_eq_true rfl, Nat.le_of_ble_eq_true rfl⟩ ⟨by show _ ≤ 603072; omega, by show _ ≤ 7223402; omega⟩ rfl hl.1 rfl (Nat.le_of_ble_eq_true rfl) dL_law_706 hS (fun H locs hL hS => ?_)
  refine lv_istore (lv' := [(7, .int (r_X10_breakOff μ (xs (i + 1).toNatClampNeg))), (6, .int (zkc [1, 3] (k_ref σ (nI 7) (xs (i + 1).toNatClampNeg) 0 0 0))), (5, .int i), (4, .ref (N + 379)), (3, .ref (N + 378)), (2, .ref (zxm N 30 0)), (1, .ref N), (0, .ref b)]) hx hb dL_law_709 hl (by decide) rfl (fun ls hl => ?_)
  refine lv_aload_n hx hb dL_law_711 rfl (lv_at hl 5 rfl) ?_
  refine zlT (rest := []) X hml hK hL m_1251 ⟨Nat.le_of_ble_eq_true rfl, Nat.le_of_ble_eq_true rfl⟩ ⟨by show _ ≤ 603072; omega, by show _ ≤ 7223402; omega⟩ hl.1 (Nat.le_of_ble_eq_true rfl) dL_law_712 ?_
  refine lv_iload hx hb dL_law_715 (lv_at hl 1 rfl) ?_
  refine lv_icmp_eq (tgt := 722) hx hb dL_law_717 (by decide) (fun _ => ?_) (fun z => absurd e838 z)
  refine lv_iload hx hb dL_law_722 (lv_at hl 1 rfl) ?_
  refine lv_if_ne (tgt := 739) hx hb dL_law_724 (by decide) (fun _ => ?_) (fun z => ?_)
  · refine lv_goto (tgt := 2283) hx hb dL_law_739 (by decide) ?_
    exact kk _ _ _ _ _ _ _ _ _ _ _ _ hL sim1 mod1 his1 ht1 hS (lv_sub hl [2, 3, 4, 5, 6, 7] rfl) (by omega) (by omega)
  · have h0 := zkc_0 (by decide) z
    have hP := eP h0
    refine lv_aload_n hx hb dL_law_727 rfl (lv_at hl 4 rfl) ?_
    refine lv_iconst (v := 0) hx hb dL_law_728 (by decide) ?_
    refine zlO X hK hL dL_law_729 ?_
    refine lv_iload hx hb dL_law_730 (lv_at hl 0 rfl) ?_
    refine lv_i2l hx hb dL_law_732 rfl ?_
    refine W.lcmp hx hb dL_law_733 ?_
    refine lv_if_eq (tgt := 739) hx hb dL_law_734 (by decide) (fun _ => ?_) (fun z => absurd ((lg_cmp_eq _ _).mpr ((if_pos h0).trans (congrArg Int32.toInt64 hP.symm))) z)
    refine lv_goto (tgt := 2283) hx hb dL_law_739 (by decide) ?_
    exact kk _ _ _ _ _ _ _ _ _ _ _ _ hL sim1 mod1 his1 ht1 hS (lv_sub hl [2, 3, 4, 5, 6, 7] rfl) (by omega) (by omega)
set_option maxRecDepth 100000 in
set_option maxHeartbeats 4000000 in
theorem zcs_8 (C : zlC p l s m c args D cy rf N b L xs H0) (hin : ∀ j : Int32, j = 1 ∨ j = 2 ∨ j = 3 ∨ j = 4 → vp_in (i + j) L) (hL : zLH D cy N σ ρ δ μ w v H) (sim : zsim σ μ τ) (mod : ymod μ τ) (his : zhist δ μ τ) (hN : zn τ 512 < 512) (hS : va_S (zLA N) H0 H locs) (hl : lv_has ls 9 [(5, .int i), (4, .ref (N + 379)), (3, .ref (N + 378)), (2, .ref (zxm N 30 0)), (1, .ref N), (0, .ref b)]) (hcs : cells + 2 ≤ 603072 ∧ slots + 12 ≤ 7223402) (kk : zlK p l e s m args below meth c Q D cy N b i H0 (zn τ 512 + 1) (cells + 2) (slots + 12)) : W p l e room_1 s m args below meth c H locs cells slots Q (F0 m 742 ls []) := by
  obtain ⟨X, hml, hK, hE, hNc, hX, hbH, hbN, hl0⟩ := id C
  obtain ⟨hx, hb, -, -⟩ := id X
  have hbA : ¬ zLA N b := fun z => absurd hbN (Nat.not_lt.mpr z)
  have hV := sim.V mod
  have hyV := mod.V
  have hfull := zl_full his hN
  obtain ⟨e838, eP, τ1, ht1, sim1, mod1, his1⟩ := act_post (za_8 mod hN) sim mod his hN
  refine lv_aload_n hx hb dL_law_742 rfl (lv_at hl 4 rfl) ?_
  refine lv_aload_n hx hb dL_law_743 rfl (lv_at hl 2 rfl) ?_
  refine zlW (As := [.ref N, .ref (N + 378)]) (rest := []) X hml hK hE hNc hL (ctL_load l hl0 D cy rf N (zxb N 0 0) (zxa N) σ (zxd N) δ zu_J (N + 378) w zu_ob hV his.1 hfull) zmL_load (by decide) m_864 ⟨Nat.le_of_ble_eq_true rfl, Nat.le_of_ble_eq_true rfl⟩ ⟨by show _ ≤ 603072; omega, by show _ ≤ 7223402; omega⟩ rfl hl.1 rfl (Nat.le_of_ble_eq_true rfl) dL_law_744 hS (fun H locs hL hS => ?_)
  refine lv_istore (lv' := [(6, .int (zkc [4] (k_ref σ (nI 8) 0 0 0 0))), (5, .int i), (4, .ref (N + 379)), (3, .ref (N + 378)), (2, .ref (zxm N 30 0)), (1, .ref N), (0, .ref b)]) hx hb dL_law_747 hl (by decide) rfl (fun ls hl => ?_)
  refine lv_aload_n hx hb dL_law_749 rfl (lv_at hl 4 rfl) ?_
  refine zlM (As := []) (rest := []) X hml hK hL (ctX10_load l D cy (zxm N) μ zu_jm) zmX10_load (by decide) m_1382 ⟨Nat.le_of_ble_eq_true rfl, Nat.le_of_ble_eq_true rfl⟩ ⟨by show _ ≤ 603072; omega, by show _ ≤ 7223402; omega⟩ rfl hl.1 rfl (Nat.le_of_ble_eq_true rfl) dL_law_750 hS (fun H locs hL hS => ?_)
  refine lv_istore (lv' := [(7, .int (r_X10_load μ)), (6, .int (zkc [4] (k_ref σ (nI 8) 0 0 0 0))), (5, .int i), (4, .ref (N + 379)), (3, .ref (N + 378)), (2, .ref (zxm N 30 0)), (1, .ref N), (0, .ref b)]) hx hb dL_law_753 hl (by decide) rfl (fun ls hl => ?_)
  refine lv_aload_n hx hb dL_law_755 rfl (lv_at hl 5 rfl) ?_
  refine zlT (rest := []) X hml hK hL m_1251 ⟨Nat.le_of_ble_eq_true rfl, Nat.le_of_ble_eq_true rfl⟩ ⟨by show _ ≤ 603072; omega, by show _ ≤ 7223402; omega⟩ hl.1 (Nat.le_of_ble_eq_true rfl) dL_law_756 ?_
  refine lv_iload hx hb dL_law_759 (lv_at hl 1 rfl) ?_
  refine lv_icmp_eq (tgt := 766) hx hb dL_law_761 (by decide) (fun _ => ?_) (fun z => absurd e838 z)
  refine lv_iload hx hb dL_law_766 (lv_at hl 1 rfl) ?_
  refine lv_if_ne (tgt := 783) hx hb dL_law_768 (by decide) (fun _ => ?_) (fun z => ?_)
  · refine lv_goto (tgt := 2283) hx hb dL_law_783 (by decide) ?_
    exact kk _ _ _ _ _ _ _ _ _ _ _ _ hL sim1 mod1 his1 ht1 hS (lv_sub hl [2, 3, 4, 5, 6, 7] rfl) (by omega) (by omega)
  · have h0 := zkc_0 (by decide) z
    have hP := eP h0
    refine lv_aload_n hx hb dL_law_771 rfl (lv_at hl 4 rfl) ?_
    refine lv_iconst (v := 0) hx hb dL_law_772 (by decide) ?_
    refine zlO X hK hL dL_law_773 ?_
    refine lv_iload hx hb dL_law_774 (lv_at hl 0 rfl) ?_
    refine lv_i2l hx hb dL_law_776 rfl ?_
    refine W.lcmp hx hb dL_law_777 ?_
    refine lv_if_eq (tgt := 783) hx hb dL_law_778 (by decide) (fun _ => ?_) (fun z => absurd ((lg_cmp_eq _ _).mpr ((if_pos h0).trans (congrArg Int32.toInt64 hP.symm))) z)
    refine lv_goto (tgt := 2283) hx hb dL_law_783 (by decide) ?_
    exact kk _ _ _ _ _ _ _ _ _ _ _ _ hL sim1 mod1 his1 ht1 hS (lv_sub hl [2, 3, 4, 5, 6, 7] rfl) (by omega) (by omega)
set_option maxRecDepth 100000 in
set_option maxHeartbeats 4000000 in
theorem zcs_9 (C : zlC p l s m c args D cy rf N b L xs H0) (hin : ∀ j : Int32, j = 1 ∨ j = 2 ∨ j = 3 ∨ j = 4 → vp_in (i + j) L) (hL : zLH D cy N σ ρ δ μ w v H) (sim : zsim σ μ τ) (mod : ymod μ τ) (his : zhist δ μ τ) (hN : zn τ 512 < 512) (hS : va_S (zLA N) H0 H locs) (hl : lv_has ls 9 [(5, .int i), (4, .ref (N + 379)), (3, .ref (N + 378)), (2, .ref (zxm N 30 0)), (1, .ref N), (0, .ref b)]) (hcs : cells + 2 ≤ 603072 ∧ slots + 12 ≤ 7223402) (kk : zlK p l e s m args below meth c Q D cy N b i H0 (zn τ 512 + 1) (cells + 2) (slots + 12)) : W p l e room_1 s m args below meth c H locs cells slots Q (F0 m 786 ls []) := by
  obtain ⟨X, hml, hK, hE, hNc, hX, hbH, hbN, hl0⟩ := id C
  obtain ⟨hx, hb, -, -⟩ := id X
  have hbA : ¬ zLA N b := fun z => absurd hbN (Nat.not_lt.mpr z)
  have hV := sim.V mod
  have hyV := mod.V
  have hfull := zl_full his hN
  obtain ⟨e838, eP, τ1, ht1, sim1, mod1, his1⟩ := act_post (za_9 mod hN (xs (i + 1).toNatClampNeg) (xs (i + 2).toNatClampNeg) (xs (i + 3).toNatClampNeg)) sim mod his hN
  refine lv_aload_n hx hb dL_law_786 rfl (lv_at hl 4 rfl) ?_
  refine lv_aload_n hx hb dL_law_787 rfl (lv_at hl 5 rfl) ?_
  refine lv_iload hx hb dL_law_788 (lv_at hl 0 rfl) ?_
  refine lv_iconst (v := 1) hx hb dL_law_790 (by decide) ?_
  refine lv_iadd hx hb dL_law_791 ?_
  refine va_sld hx hb hX hbH hbA hS (hin _ (by decide)) dL_law_792 ?_
  refine lv_aload_n hx hb dL_law_793 rfl (lv_at hl 5 rfl) ?_
  refine lv_iload hx hb dL_law_794 (lv_at hl 0 rfl) ?_
  refine lv_iconst (v := 2) hx hb dL_law_796 (by decide) ?_
  refine lv_iadd hx hb dL_law_797 ?_
  refine va_sld hx hb hX hbH hbA hS (hin _ (by decide)) dL_law_798 ?_
  refine lv_aload_n hx hb dL_law_799 rfl (lv_at hl 5 rfl) ?_
  refine lv_iload hx hb dL_law_800 (lv_at hl 0 rfl) ?_
  refine lv_iconst (v := 3) hx hb dL_law_802 (by decide) ?_
  refine lv_iadd hx hb dL_law_803 ?_
  refine va_sld hx hb hX hbH hbA hS (hin _ (by decide)) dL_law_804 ?_
  refine lv_aload_n hx hb dL_law_805 rfl (lv_at hl 2 rfl) ?_
  refine zlW (As := [.ref N, .int (xs (i + 1).toNatClampNeg), .int (xs (i + 2).toNatClampNeg), .int (xs (i + 3).toNatClampNeg), .ref (N + 378)]) (rest := []) X hml hK hE hNc hL (ctL_board l hl0 D cy rf N (zxb N 0 0) (zxa N) σ (zxd N) δ zu_J (N + 378) w zu_ob (xs (i + 1).toNatClampNeg) (xs (i + 2).toNatClampNeg) (xs (i + 3).toNatClampNeg) hV his.1 hfull) zmL_board (by decide) m_871 ⟨Nat.le_of_ble_eq_true rfl, Nat.le_of_ble_eq_true rfl⟩ ⟨by show _ ≤ 603072; omega, by show _ ≤ 7223402; omega⟩ rfl hl.1 rfl (Nat.le_of_ble_eq_true rfl) dL_law_806 hS (fun H locs hL hS => ?_)
  refine lv_istore (lv' := [(6, .int (zkc [1, 2, 3, 4] (k_ref σ (nI 9) (xs (i + 1).toNatClampNeg) (xs (i + 2).toNatClampNeg) (xs (i + 3).toNatClampNeg) 0))), (5, .int i), (4, .ref (N + 379)), (3, .ref (N + 378)), (2, .ref (zxm N 30 0)), (1, .ref N), (0, .ref b)]) hx hb dL_law_809 hl (by decide) rfl (fun ls hl => ?_)
  refine lv_aload_n hx hb dL_law_811 rfl (lv_at hl 4 rfl) ?_
  refine lv_aload_n hx hb dL_law_812 rfl (lv_at hl 6 rfl) ?_
  refine lv_iload hx hb dL_law_813 (lv_at hl 1 rfl) ?_
  refine lv_iconst (v := 1) hx hb dL_law_815 (by decide) ?_
  refine lv_iadd hx hb dL_law_816 ?_
  refine va_sld hx hb hX hbH hbA hS (hin _ (by decide)) dL_law_817 ?_
  refine lv_aload_n hx hb dL_law_818 rfl (lv_at hl 6 rfl) ?_
  refine lv_iload hx hb dL_law_819 (lv_at hl 1 rfl) ?_
  refine lv_iconst (v := 2) hx hb dL_law_821 (by decide) ?_
  refine lv_iadd hx hb dL_law_822 ?_
  refine va_sld hx hb hX hbH hbA hS (hin _ (by decide)) dL_law_823 ?_
  refine lv_aload_n hx hb dL_law_824 rfl (lv_at hl 6 rfl) ?_
  refine lv_iload hx hb dL_law_825 (lv_at hl 1 rfl) ?_
  refine lv_iconst (v := 3) hx hb dL_law_827 (by decide) ?_
  refine lv_iadd hx hb dL_law_828 ?_
  refine va_sld hx hb hX hbH hbA hS (hin _ (by decide)) dL_law_829 ?_
  refine zlM (As := [.int (xs (i + 1).toNatClampNeg), .int (xs (i + 2).toNatClampNeg), .int (xs (i + 3).toNatClampNeg)]) (rest := []) X hml hK hL (ctX10_board l D cy (zxm N) μ zu_jm (xs (i + 1).toNatClampNeg) (xs (i + 2).toNatClampNeg) (xs (i + 3).toNatClampNeg) hyV) zmX10_board (by decide) m_1386 ⟨Nat.le_of_ble_eq_true rfl, Nat.le_of_ble_eq_true rfl⟩ ⟨by show _ ≤ 603072; omega, by show _ ≤ 7223402; omega⟩ rfl hl.1 rfl (Nat.le_of_ble_eq_true rfl) dL_law_830 hS (fun H locs hL hS => ?_)
  refine lv_istore (lv' := [(7, .int (r_X10_board μ (xs (i + 1).toNatClampNeg) (xs (i + 2).toNatClampNeg) (xs (i + 3).toNatClampNeg))), (6, .int (zkc [1, 2, 3, 4] (k_ref σ (nI 9) (xs (i + 1).toNatClampNeg) (xs (i + 2).toNatClampNeg) (xs (i + 3).toNatClampNeg) 0))), (5, .int i), (4, .ref (N + 379)), (3, .ref (N + 378)), (2, .ref (zxm N 30 0)), (1, .ref N), (0, .ref b)]) hx hb dL_law_833 hl (by decide) rfl (fun ls hl => ?_)
  refine lv_aload_n hx hb dL_law_835 rfl (lv_at hl 5 rfl) ?_
  refine zlT (rest := []) X hml hK hL m_1251 ⟨Nat.le_of_ble_eq_true rfl, Nat.le_of_ble_eq_true rfl⟩ ⟨by show _ ≤ 603072; omega, by show _ ≤ 7223402; omega⟩ hl.1 (Nat.le_of_ble_eq_true rfl) dL_law_836 ?_
  refine lv_iload hx hb dL_law_839 (lv_at hl 1 rfl) ?_
  refine lv_icmp_eq (tgt := 846) hx hb dL_law_841 (by decide) (fun _ => ?_) (fun z => absurd e838 z)
  refine lv_iload hx hb dL_law_846 (lv_at hl 1 rfl) ?_
  refine lv_if_ne (tgt := 863) hx hb dL_law_848 (by decide) (fun _ => ?_) (fun z => ?_)
  · refine lv_goto (tgt := 2283) hx hb dL_law_863 (by decide) ?_
    exact kk _ _ _ _ _ _ _ _ _ _ _ _ hL sim1 mod1 his1 ht1 hS (lv_sub hl [2, 3, 4, 5, 6, 7] rfl) (by omega) (by omega)
  · have h0 := zkc_0 (by decide) z
    have hP := eP h0
    refine lv_aload_n hx hb dL_law_851 rfl (lv_at hl 4 rfl) ?_
    refine lv_iconst (v := 0) hx hb dL_law_852 (by decide) ?_
    refine zlO X hK hL dL_law_853 ?_
    refine lv_iload hx hb dL_law_854 (lv_at hl 0 rfl) ?_
    refine lv_i2l hx hb dL_law_856 rfl ?_
    refine W.lcmp hx hb dL_law_857 ?_
    refine lv_if_eq (tgt := 863) hx hb dL_law_858 (by decide) (fun _ => ?_) (fun z => absurd ((lg_cmp_eq _ _).mpr ((if_pos h0).trans (congrArg Int32.toInt64 hP.symm))) z)
    refine lv_goto (tgt := 2283) hx hb dL_law_863 (by decide) ?_
    exact kk _ _ _ _ _ _ _ _ _ _ _ _ hL sim1 mod1 his1 ht1 hS (lv_sub hl [2, 3, 4, 5, 6, 7] rfl) (by omega) (by omega)
set_option maxRecDepth 100000 in
set_option maxHeartbeats 4000000 in
theorem zcs_10 (C : zlC p l s m c args D cy rf N b L xs H0) (hin : ∀ j : Int32, j = 1 ∨ j = 2 ∨ j = 3 ∨ j = 4 → vp_in (i + j) L) (hL : zLH D cy N σ ρ δ μ w v H) (sim : zsim σ μ τ) (mod : ymod μ τ) (his : zhist δ μ τ) (hN : zn τ 512 < 512) (hS : va_S (zLA N) H0 H locs) (hl : lv_has ls 9 [(5, .int i), (4, .ref (N + 379)), (3, .ref (N + 378)), (2, .ref (zxm N 30 0)), (1, .ref N), (0, .ref b)]) (hcs : cells + 2 ≤ 603072 ∧ slots + 12 ≤ 7223402) (kk : zlK p l e s m args below meth c Q D cy N b i H0 (zn τ 512 + 1) (cells + 2) (slots + 12)) : W p l e room_1 s m args below meth c H locs cells slots Q (F0 m 866 ls []) := by
  obtain ⟨X, hml, hK, hE, hNc, hX, hbH, hbN, hl0⟩ := id C
  obtain ⟨hx, hb, -, -⟩ := id X
  have hbA : ¬ zLA N b := fun z => absurd hbN (Nat.not_lt.mpr z)
  have hV := sim.V mod
  have hyV := mod.V
  have hfull := zl_full his hN
  obtain ⟨e838, eP, τ1, ht1, sim1, mod1, his1⟩ := act_post (za_10 mod hN (xs (i + 1).toNatClampNeg)) sim mod his hN
  refine lv_aload_n hx hb dL_law_866 rfl (lv_at hl 4 rfl) ?_
  refine lv_aload_n hx hb dL_law_867 rfl (lv_at hl 5 rfl) ?_
  refine lv_iload hx hb dL_law_868 (lv_at hl 0 rfl) ?_
  refine lv_iconst (v := 1) hx hb dL_law_870 (by decide) ?_
  refine lv_iadd hx hb dL_law_871 ?_
  refine va_sld hx hb hX hbH hbA hS (hin _ (by decide)) dL_law_872 ?_
  refine lv_aload_n hx hb dL_law_873 rfl (lv_at hl 2 rfl) ?_
  refine zlW (As := [.ref N, .int (xs (i + 1).toNatClampNeg), .ref (N + 378)]) (rest := []) X hml hK hE hNc hL (ctL_leave l hl0 D cy rf N (zxb N 0 0) (zxa N) σ (zxd N) δ zu_J (N + 378) w zu_ob (xs (i + 1).toNatClampNeg) hV his.1 hfull) zmL_leave (by decide) m_878 ⟨Nat.le_of_ble_eq_true rfl, Nat.le_of_ble_eq_true rfl⟩ ⟨by show _ ≤ 603072; omega, by show _ ≤ 7223402; omega⟩ rfl hl.1 rfl (Nat.le_of_ble_eq_true rfl) dL_law_874 hS (fun H locs hL hS => ?_)
  refine lv_istore (lv' := [(6, .int (zkc [1, 3] (k_ref σ (nI 10) (xs (i + 1).toNatClampNeg) 0 0 0))), (5, .int i), (4, .ref (N + 379)), (3, .ref (N + 378)), (2, .ref (zxm N 30 0)), (1, .ref N), (0, .ref b)]) hx hb dL_law_877 hl (by decide) rfl (fun ls hl => ?_)
  refine lv_aload_n hx hb dL_law_879 rfl (lv_at hl 4 rfl) ?_
  refine lv_aload_n hx hb dL_law_880 rfl (lv_at hl 6 rfl) ?_
  refine lv_iload hx hb dL_law_881 (lv_at hl 1 rfl) ?_
  refine lv_iconst (v := 1) hx hb dL_law_883 (by decide) ?_
  refine lv_iadd hx hb dL_law_884 ?_
  refine va_sld hx hb hX hbH hbA hS (hin _ (by decide)) dL_law_885 ?_
  refine zlM (As := [.int (xs (i + 1).toNatClampNeg)]) (rest := []) X hml hK hL (ctX10_leave l D cy (zxm N) μ zu_jm (xs (i + 1).toNatClampNeg) hyV) zmX10_leave (by decide) m_1410 ⟨Nat.le_of_ble_eq_true rfl, Nat.le_of_ble_eq_true rfl⟩ ⟨by show _ ≤ 603072; omega, by show _ ≤ 7223402; omega⟩ rfl hl.1 rfl (Nat.le_of_ble_eq_true rfl) dL_law_886 hS (fun H locs hL hS => ?_)
  refine lv_istore (lv' := [(7, .int (r_X10_leave μ (xs (i + 1).toNatClampNeg))), (6, .int (zkc [1, 3] (k_ref σ (nI 10) (xs (i + 1).toNatClampNeg) 0 0 0))), (5, .int i), (4, .ref (N + 379)), (3, .ref (N + 378)), (2, .ref (zxm N 30 0)), (1, .ref N), (0, .ref b)]) hx hb dL_law_889 hl (by decide) rfl (fun ls hl => ?_)
  refine lv_aload_n hx hb dL_law_891 rfl (lv_at hl 5 rfl) ?_
  refine zlT (rest := []) X hml hK hL m_1251 ⟨Nat.le_of_ble_eq_true rfl, Nat.le_of_ble_eq_true rfl⟩ ⟨by show _ ≤ 603072; omega, by show _ ≤ 7223402; omega⟩ hl.1 (Nat.le_of_ble_eq_true rfl) dL_law_892 ?_
  refine lv_iload hx hb dL_law_895 (lv_at hl 1 rfl) ?_
  refine lv_icmp_eq (tgt := 902) hx hb dL_law_897 (by decide) (fun _ => ?_) (fun z => absurd e838 z)
  refine lv_iload hx hb dL_law_902 (lv_at hl 1 rfl) ?_
  refine lv_if_ne (tgt := 919) hx hb dL_law_904 (by decide) (fun _ => ?_) (fun z => ?_)
  · refine lv_goto (tgt := 2283) hx hb dL_law_919 (by decide) ?_
    exact kk _ _ _ _ _ _ _ _ _ _ _ _ hL sim1 mod1 his1 ht1 hS (lv_sub hl [2, 3, 4, 5, 6, 7] rfl) (by omega) (by omega)
  · have h0 := zkc_0 (by decide) z
    have hP := eP h0
    refine lv_aload_n hx hb dL_law_907 rfl (lv_at hl 4 rfl) ?_
    refine lv_iconst (v := 0) hx hb dL_law_908 (by decide) ?_
    refine zlO X hK hL dL_law_909 ?_
    refine lv_iload hx hb dL_law_910 (lv_at hl 0 rfl) ?_
    refine lv_i2l hx hb dL_law_912 rfl ?_
    refine W.lcmp hx hb dL_law_913 ?_
    refine lv_if_eq (tgt := 919) hx hb dL_law_914 (by decide) (fun _ => ?_) (fun z => absurd ((lg_cmp_eq _ _).mpr ((if_pos h0).trans (congrArg Int32.toInt64 hP.symm))) z)
    refine lv_goto (tgt := 2283) hx hb dL_law_919 (by decide) ?_
    exact kk _ _ _ _ _ _ _ _ _ _ _ _ hL sim1 mod1 his1 ht1 hS (lv_sub hl [2, 3, 4, 5, 6, 7] rfl) (by omega) (by omega)
set_option maxRecDepth 100000 in
set_option maxHeartbeats 4000000 in
theorem zcs_11 (C : zlC p l s m c args D cy rf N b L xs H0) (hin : ∀ j : Int32, j = 1 ∨ j = 2 ∨ j = 3 ∨ j = 4 → vp_in (i + j) L) (hL : zLH D cy N σ ρ δ μ w v H) (sim : zsim σ μ τ) (mod : ymod μ τ) (his : zhist δ μ τ) (hN : zn τ 512 < 512) (hS : va_S (zLA N) H0 H locs) (hl : lv_has ls 9 [(5, .int i), (4, .ref (N + 379)), (3, .ref (N + 378)), (2, .ref (zxm N 30 0)), (1, .ref N), (0, .ref b)]) (hcs : cells + 2 ≤ 603072 ∧ slots + 12 ≤ 7223402) (kk : zlK p l e s m args below meth c Q D cy N b i H0 (zn τ 512 + 1) (cells + 2) (slots + 12)) : W p l e room_1 s m args below meth c H locs cells slots Q (F0 m 922 ls []) := by
  obtain ⟨X, hml, hK, hE, hNc, hX, hbH, hbN, hl0⟩ := id C
  obtain ⟨hx, hb, -, -⟩ := id X
  have hbA : ¬ zLA N b := fun z => absurd hbN (Nat.not_lt.mpr z)
  have hV := sim.V mod
  have hyV := mod.V
  have hfull := zl_full his hN
  obtain ⟨e838, eP, τ1, ht1, sim1, mod1, his1⟩ := act_post (za_11 mod hN (xs (i + 1).toNatClampNeg) (xs (i + 2).toNatClampNeg)) sim mod his hN
  refine lv_aload_n hx hb dL_law_922 rfl (lv_at hl 4 rfl) ?_
  refine lv_aload_n hx hb dL_law_923 rfl (lv_at hl 5 rfl) ?_
  refine lv_iload hx hb dL_law_924 (lv_at hl 0 rfl) ?_
  refine lv_iconst (v := 1) hx hb dL_law_926 (by decide) ?_
  refine lv_iadd hx hb dL_law_927 ?_
  refine va_sld hx hb hX hbH hbA hS (hin _ (by decide)) dL_law_928 ?_
  refine lv_aload_n hx hb dL_law_929 rfl (lv_at hl 5 rfl) ?_
  refine lv_iload hx hb dL_law_930 (lv_at hl 0 rfl) ?_
  refine lv_iconst (v := 2) hx hb dL_law_932 (by decide) ?_
  refine lv_iadd hx hb dL_law_933 ?_
  refine va_sld hx hb hX hbH hbA hS (hin _ (by decide)) dL_law_934 ?_
  refine lv_aload_n hx hb dL_law_935 rfl (lv_at hl 2 rfl) ?_
  refine zlW (As := [.ref N, .int (xs (i + 1).toNatClampNeg), .int (xs (i + 2).toNatClampNeg), .ref (N + 378)]) (rest := []) X hml hK hE hNc hL (ctL_jump l hl0 D cy rf N (zxb N 0 0) (zxa N) σ (zxd N) δ zu_J (N + 378) w zu_ob (xs (i + 1).toNatClampNeg) (xs (i + 2).toNatClampNeg) hV his.1 hfull) zmL_jump (by decide) m_885 ⟨Nat.le_of_ble_eq_true rfl, Nat.le_of_ble_eq_true rfl⟩ ⟨by show _ ≤ 603072; omega, by show _ ≤ 7223402; omega⟩ rfl hl.1 rfl (Nat.le_of_ble_eq_true rfl) dL_law_936 hS (fun H locs hL hS => ?_)
  refine lv_istore (lv' := [(6, .int (zkc [1, 3] (k_ref σ (nI 11) (xs (i + 1).toNatClampNeg) (xs (i + 2).toNatClampNeg) 0 0))), (5, .int i), (4, .ref (N + 379)), (3, .ref (N + 378)), (2, .ref (zxm N 30 0)), (1, .ref N), (0, .ref b)]) hx hb dL_law_939 hl (by decide) rfl (fun ls hl => ?_)
  refine lv_aload_n hx hb dL_law_941 rfl (lv_at hl 4 rfl) ?_
  refine lv_aload_n hx hb dL_law_942 rfl (lv_at hl 6 rfl) ?_
  refine lv_iload hx hb dL_law_943 (lv_at hl 1 rfl) ?_
  refine lv_iconst (v := 1) hx hb dL_law_945 (by decide) ?_
  refine lv_iadd hx hb dL_law_946 ?_
  refine va_sld hx hb hX hbH hbA hS (hin _ (by decide)) dL_law_947 ?_
  refine lv_aload_n hx hb dL_law_948 rfl (lv_at hl 6 rfl) ?_
  refine lv_iload hx hb dL_law_949 (lv_at hl 1 rfl) ?_
  refine lv_iconst (v := 2) hx hb dL_law_951 (by decide) ?_
  refine lv_iadd hx hb dL_law_952 ?_
  refine va_sld hx hb hX hbH hbA hS (hin _ (by decide)) dL_law_953 ?_
  refine zlM (As := [.int (xs (i + 1).toNatClampNeg), .int (xs (i + 2).toNatClampNeg)]) (rest := []) X hml hK hL (ctX10_jump l D cy (zxm N) μ zu_jm (xs (i + 1).toNatClampNeg) (xs (i + 2).toNatClampNeg) hyV) zmX10_jump (by decide) m_1414 ⟨Nat.le_of_ble_eq_true rfl, Nat.le_of_ble_eq_true rfl⟩ ⟨by show _ ≤ 603072; omega, by show _ ≤ 7223402; omega⟩ rfl hl.1 rfl (Nat.le_of_ble_eq_true rfl) dL_law_954 hS (fun H locs hL hS => ?_)
  refine lv_istore (lv' := [(7, .int (r_X10_jump μ (xs (i + 1).toNatClampNeg))), (6, .int (zkc [1, 3] (k_ref σ (nI 11) (xs (i + 1).toNatClampNeg) (xs (i + 2).toNatClampNeg) 0 0))), (5, .int i), (4, .ref (N + 379)), (3, .ref (N + 378)), (2, .ref (zxm N 30 0)), (1, .ref N), (0, .ref b)]) hx hb dL_law_957 hl (by decide) rfl (fun ls hl => ?_)
  refine lv_aload_n hx hb dL_law_959 rfl (lv_at hl 5 rfl) ?_
  refine zlT (rest := []) X hml hK hL m_1251 ⟨Nat.le_of_ble_eq_true rfl, Nat.le_of_ble_eq_true rfl⟩ ⟨by show _ ≤ 603072; omega, by show _ ≤ 7223402; omega⟩ hl.1 (Nat.le_of_ble_eq_true rfl) dL_law_960 ?_
  refine lv_iload hx hb dL_law_963 (lv_at hl 1 rfl) ?_
  refine lv_icmp_eq (tgt := 970) hx hb dL_law_965 (by decide) (fun _ => ?_) (fun z => absurd e838 z)
  refine lv_iload hx hb dL_law_970 (lv_at hl 1 rfl) ?_
  refine lv_if_ne (tgt := 987) hx hb dL_law_972 (by decide) (fun _ => ?_) (fun z => ?_)
  · refine lv_goto (tgt := 2283) hx hb dL_law_987 (by decide) ?_
    exact kk _ _ _ _ _ _ _ _ _ _ _ _ hL sim1 mod1 his1 ht1 hS (lv_sub hl [2, 3, 4, 5, 6, 7] rfl) (by omega) (by omega)
  · have h0 := zkc_0 (by decide) z
    have hP := eP h0
    refine lv_aload_n hx hb dL_law_975 rfl (lv_at hl 4 rfl) ?_
    refine lv_iconst (v := 0) hx hb dL_law_976 (by decide) ?_
    refine zlO X hK hL dL_law_977 ?_
    refine lv_iload hx hb dL_law_978 (lv_at hl 0 rfl) ?_
    refine lv_i2l hx hb dL_law_980 rfl ?_
    refine W.lcmp hx hb dL_law_981 ?_
    refine lv_if_eq (tgt := 987) hx hb dL_law_982 (by decide) (fun _ => ?_) (fun z => absurd ((lg_cmp_eq _ _).mpr ((if_pos h0).trans (congrArg Int32.toInt64 hP.symm))) z)
    refine lv_goto (tgt := 2283) hx hb dL_law_987 (by decide) ?_
    exact kk _ _ _ _ _ _ _ _ _ _ _ _ hL sim1 mod1 his1 ht1 hS (lv_sub hl [2, 3, 4, 5, 6, 7] rfl) (by omega) (by omega)
set_option maxRecDepth 100000 in
set_option maxHeartbeats 4000000 in
theorem zcs_12 (C : zlC p l s m c args D cy rf N b L xs H0) (hin : ∀ j : Int32, j = 1 ∨ j = 2 ∨ j = 3 ∨ j = 4 → vp_in (i + j) L) (hL : zLH D cy N σ ρ δ μ w v H) (sim : zsim σ μ τ) (mod : ymod μ τ) (his : zhist δ μ τ) (hN : zn τ 512 < 512) (hS : va_S (zLA N) H0 H locs) (hl : lv_has ls 9 [(5, .int i), (4, .ref (N + 379)), (3, .ref (N + 378)), (2, .ref (zxm N 30 0)), (1, .ref N), (0, .ref b)]) (hcs : cells + 2 ≤ 603072 ∧ slots + 12 ≤ 7223402) (kk : zlK p l e s m args below meth c Q D cy N b i H0 (zn τ 512 + 1) (cells + 2) (slots + 12)) : W p l e room_1 s m args below meth c H locs cells slots Q (F0 m 990 ls []) := by
  obtain ⟨X, hml, hK, hE, hNc, hX, hbH, hbN, hl0⟩ := id C
  obtain ⟨hx, hb, -, -⟩ := id X
  have hbA : ¬ zLA N b := fun z => absurd hbN (Nat.not_lt.mpr z)
  have hV := sim.V mod
  have hyV := mod.V
  have hfull := zl_full his hN
  obtain ⟨e838, eP, τ1, ht1, sim1, mod1, his1⟩ := act_post (za_12 mod hN (xs (i + 1).toNatClampNeg)) sim mod his hN
  refine lv_aload_n hx hb dL_law_990 rfl (lv_at hl 4 rfl) ?_
  refine lv_aload_n hx hb dL_law_991 rfl (lv_at hl 5 rfl) ?_
  refine lv_iload hx hb dL_law_992 (lv_at hl 0 rfl) ?_
  refine lv_iconst (v := 1) hx hb dL_law_994 (by decide) ?_
  refine lv_iadd hx hb dL_law_995 ?_
  refine va_sld hx hb hX hbH hbA hS (hin _ (by decide)) dL_law_996 ?_
  refine lv_aload_n hx hb dL_law_997 rfl (lv_at hl 2 rfl) ?_
  refine zlW (As := [.ref N, .int (xs (i + 1).toNatClampNeg), .ref (N + 378)]) (rest := []) X hml hK hE hNc hL (ctL_find l hl0 D cy rf N (zxb N 0 0) (zxa N) σ (zxd N) δ zu_J (N + 378) w zu_ob (xs (i + 1).toNatClampNeg) hV his.1 hfull) zmL_find (by decide) m_892 ⟨Nat.le_of_ble_eq_true rfl, Nat.le_of_ble_eq_true rfl⟩ ⟨by show _ ≤ 603072; omega, by show _ ≤ 7223402; omega⟩ rfl hl.1 rfl (Nat.le_of_ble_eq_true rfl) dL_law_998 hS (fun H locs hL hS => ?_)
  refine lv_istore (lv' := [(6, .int (zkc [1, 4] (k_ref σ (nI 12) (xs (i + 1).toNatClampNeg) 0 0 0))), (5, .int i), (4, .ref (N + 379)), (3, .ref (N + 378)), (2, .ref (zxm N 30 0)), (1, .ref N), (0, .ref b)]) hx hb dL_law_1001 hl (by decide) rfl (fun ls hl => ?_)
  refine lv_aload_n hx hb dL_law_1003 rfl (lv_at hl 4 rfl) ?_
  refine lv_aload_n hx hb dL_law_1004 rfl (lv_at hl 6 rfl) ?_
  refine lv_iload hx hb dL_law_1005 (lv_at hl 1 rfl) ?_
  refine lv_iconst (v := 1) hx hb dL_law_1007 (by decide) ?_
  refine lv_iadd hx hb dL_law_1008 ?_
  refine va_sld hx hb hX hbH hbA hS (hin _ (by decide)) dL_law_1009 ?_
  refine zlM (As := [.int (xs (i + 1).toNatClampNeg)]) (rest := []) X hml hK hL (ctX10_find l D cy (zxm N) μ zu_jm (xs (i + 1).toNatClampNeg) hyV) zmX10_find (by decide) m_1322 ⟨Nat.le_of_ble_eq_true rfl, Nat.le_of_ble_eq_true rfl⟩ ⟨by show _ ≤ 603072; omega, by show _ ≤ 7223402; omega⟩ rfl hl.1 rfl (Nat.le_of_ble_eq_true rfl) dL_law_1010 hS (fun H locs hL hS => ?_)
  refine lv_istore (lv' := [(7, .int (r_X10_find μ (xs (i + 1).toNatClampNeg))), (6, .int (zkc [1, 4] (k_ref σ (nI 12) (xs (i + 1).toNatClampNeg) 0 0 0))), (5, .int i), (4, .ref (N + 379)), (3, .ref (N + 378)), (2, .ref (zxm N 30 0)), (1, .ref N), (0, .ref b)]) hx hb dL_law_1013 hl (by decide) rfl (fun ls hl => ?_)
  refine lv_aload_n hx hb dL_law_1015 rfl (lv_at hl 5 rfl) ?_
  refine zlT (rest := []) X hml hK hL m_1251 ⟨Nat.le_of_ble_eq_true rfl, Nat.le_of_ble_eq_true rfl⟩ ⟨by show _ ≤ 603072; omega, by show _ ≤ 7223402; omega⟩ hl.1 (Nat.le_of_ble_eq_true rfl) dL_law_1016 ?_
  refine lv_iload hx hb dL_law_1019 (lv_at hl 1 rfl) ?_
  refine lv_icmp_eq (tgt := 1026) hx hb dL_law_1021 (by decide) (fun _ => ?_) (fun z => absurd e838 z)
  refine lv_iload hx hb dL_law_1026 (lv_at hl 1 rfl) ?_
  refine lv_if_ne (tgt := 1043) hx hb dL_law_1028 (by decide) (fun _ => ?_) (fun z => ?_)
  · refine lv_goto (tgt := 2283) hx hb dL_law_1043 (by decide) ?_
    exact kk _ _ _ _ _ _ _ _ _ _ _ _ hL sim1 mod1 his1 ht1 hS (lv_sub hl [2, 3, 4, 5, 6, 7] rfl) (by omega) (by omega)
  · have h0 := zkc_0 (by decide) z
    have hP := eP h0
    refine lv_aload_n hx hb dL_law_1031 rfl (lv_at hl 4 rfl) ?_
    refine lv_iconst (v := 0) hx hb dL_law_1032 (by decide) ?_
    refine zlO X hK hL dL_law_1033 ?_
    refine lv_iload hx hb dL_law_1034 (lv_at hl 0 rfl) ?_
    refine lv_i2l hx hb dL_law_1036 rfl ?_
    refine W.lcmp hx hb dL_law_1037 ?_
    refine lv_if_eq (tgt := 1043) hx hb dL_law_1038 (by decide) (fun _ => ?_) (fun z => absurd ((lg_cmp_eq _ _).mpr ((if_pos h0).trans (congrArg Int32.toInt64 hP.symm))) z)
    refine lv_goto (tgt := 2283) hx hb dL_law_1043 (by decide) ?_
    exact kk _ _ _ _ _ _ _ _ _ _ _ _ hL sim1 mod1 his1 ht1 hS (lv_sub hl [2, 3, 4, 5, 6, 7] rfl) (by omega) (by omega)
set_option maxRecDepth 100000 in
set_option maxHeartbeats 4000000 in
theorem zcs_13 (C : zlC p l s m c args D cy rf N b L xs H0) (hin : ∀ j : Int32, j = 1 ∨ j = 2 ∨ j = 3 ∨ j = 4 → vp_in (i + j) L) (hL : zLH D cy N σ ρ δ μ w v H) (sim : zsim σ μ τ) (mod : ymod μ τ) (his : zhist δ μ τ) (hN : zn τ 512 < 512) (hS : va_S (zLA N) H0 H locs) (hl : lv_has ls 9 [(5, .int i), (4, .ref (N + 379)), (3, .ref (N + 378)), (2, .ref (zxm N 30 0)), (1, .ref N), (0, .ref b)]) (hcs : cells + 2 ≤ 603072 ∧ slots + 12 ≤ 7223402) (kk : zlK p l e s m args below meth c Q D cy N b i H0 (zn τ 512 + 1) (cells + 2) (slots + 12)) : W p l e room_1 s m args below meth c H locs cells slots Q (F0 m 1046 ls []) := by
  obtain ⟨X, hml, hK, hE, hNc, hX, hbH, hbN, hl0⟩ := id C
  obtain ⟨hx, hb, -, -⟩ := id X
  have hbA : ¬ zLA N b := fun z => absurd hbN (Nat.not_lt.mpr z)
  have hV := sim.V mod
  have hyV := mod.V
  have hfull := zl_full his hN
  obtain ⟨e838, eP, τ1, ht1, sim1, mod1, his1⟩ := act_post (za_13 mod hN (xs (i + 1).toNatClampNeg)) sim mod his hN
  refine lv_aload_n hx hb dL_law_1046 rfl (lv_at hl 4 rfl) ?_
  refine lv_aload_n hx hb dL_law_1047 rfl (lv_at hl 5 rfl) ?_
  refine lv_iload hx hb dL_law_1048 (lv_at hl 0 rfl) ?_
  refine lv_iconst (v := 1) hx hb dL_law_1050 (by decide) ?_
  refine lv_iadd hx hb dL_law_1051 ?_
  refine va_sld hx hb hX hbH hbA hS (hin _ (by decide)) dL_law_1052 ?_
  refine lv_aload_n hx hb dL_law_1053 rfl (lv_at hl 2 rfl) ?_
  refine zlW (As := [.ref N, .int (xs (i + 1).toNatClampNeg), .ref (N + 378)]) (rest := []) X hml hK hE hNc hL (ctL_widen l hl0 D cy rf N (zxb N 0 0) (zxa N) σ (zxd N) δ zu_J (N + 378) w zu_ob (xs (i + 1).toNatClampNeg) hV his.1 hfull) zmL_widen (by decide) m_899 ⟨Nat.le_of_ble_eq_true rfl, Nat.le_of_ble_eq_true rfl⟩ ⟨by show _ ≤ 603072; omega, by show _ ≤ 7223402; omega⟩ rfl hl.1 rfl (Nat.le_of_ble_eq_true rfl) dL_law_1054 hS (fun H locs hL hS => ?_)
  refine lv_istore (lv' := [(6, .int (zkc [1, 3] (k_ref σ (nI 13) (xs (i + 1).toNatClampNeg) 0 0 0))), (5, .int i), (4, .ref (N + 379)), (3, .ref (N + 378)), (2, .ref (zxm N 30 0)), (1, .ref N), (0, .ref b)]) hx hb dL_law_1057 hl (by decide) rfl (fun ls hl => ?_)
  refine lv_aload_n hx hb dL_law_1059 rfl (lv_at hl 4 rfl) ?_
  refine lv_aload_n hx hb dL_law_1060 rfl (lv_at hl 6 rfl) ?_
  refine lv_iload hx hb dL_law_1061 (lv_at hl 1 rfl) ?_
  refine lv_iconst (v := 1) hx hb dL_law_1063 (by decide) ?_
  refine lv_iadd hx hb dL_law_1064 ?_
  refine va_sld hx hb hX hbH hbA hS (hin _ (by decide)) dL_law_1065 ?_
  refine zlM (As := [.int (xs (i + 1).toNatClampNeg)]) (rest := []) X hml hK hL (ctX10_widen l D cy (zxm N) μ zu_jm (xs (i + 1).toNatClampNeg) hyV) zmX10_widen (by decide) m_1330 ⟨Nat.le_of_ble_eq_true rfl, Nat.le_of_ble_eq_true rfl⟩ ⟨by show _ ≤ 603072; omega, by show _ ≤ 7223402; omega⟩ rfl hl.1 rfl (Nat.le_of_ble_eq_true rfl) dL_law_1066 hS (fun H locs hL hS => ?_)
  refine lv_istore (lv' := [(7, .int (r_X10_widen μ (xs (i + 1).toNatClampNeg))), (6, .int (zkc [1, 3] (k_ref σ (nI 13) (xs (i + 1).toNatClampNeg) 0 0 0))), (5, .int i), (4, .ref (N + 379)), (3, .ref (N + 378)), (2, .ref (zxm N 30 0)), (1, .ref N), (0, .ref b)]) hx hb dL_law_1069 hl (by decide) rfl (fun ls hl => ?_)
  refine lv_aload_n hx hb dL_law_1071 rfl (lv_at hl 5 rfl) ?_
  refine zlT (rest := []) X hml hK hL m_1251 ⟨Nat.le_of_ble_eq_true rfl, Nat.le_of_ble_eq_true rfl⟩ ⟨by show _ ≤ 603072; omega, by show _ ≤ 7223402; omega⟩ hl.1 (Nat.le_of_ble_eq_true rfl) dL_law_1072 ?_
  refine lv_iload hx hb dL_law_1075 (lv_at hl 1 rfl) ?_
  refine lv_icmp_eq (tgt := 1082) hx hb dL_law_1077 (by decide) (fun _ => ?_) (fun z => absurd e838 z)
  refine lv_iload hx hb dL_law_1082 (lv_at hl 1 rfl) ?_
  refine lv_if_ne (tgt := 1099) hx hb dL_law_1084 (by decide) (fun _ => ?_) (fun z => ?_)
  · refine lv_goto (tgt := 2283) hx hb dL_law_1099 (by decide) ?_
    exact kk _ _ _ _ _ _ _ _ _ _ _ _ hL sim1 mod1 his1 ht1 hS (lv_sub hl [2, 3, 4, 5, 6, 7] rfl) (by omega) (by omega)
  · have h0 := zkc_0 (by decide) z
    have hP := eP h0
    refine lv_aload_n hx hb dL_law_1087 rfl (lv_at hl 4 rfl) ?_
    refine lv_iconst (v := 0) hx hb dL_law_1088 (by decide) ?_
    refine zlO X hK hL dL_law_1089 ?_
    refine lv_iload hx hb dL_law_1090 (lv_at hl 0 rfl) ?_
    refine lv_i2l hx hb dL_law_1092 rfl ?_
    refine W.lcmp hx hb dL_law_1093 ?_
    refine lv_if_eq (tgt := 1099) hx hb dL_law_1094 (by decide) (fun _ => ?_) (fun z => absurd ((lg_cmp_eq _ _).mpr ((if_pos h0).trans (congrArg Int32.toInt64 hP.symm))) z)
    refine lv_goto (tgt := 2283) hx hb dL_law_1099 (by decide) ?_
    exact kk _ _ _ _ _ _ _ _ _ _ _ _ hL sim1 mod1 his1 ht1 hS (lv_sub hl [2, 3, 4, 5, 6, 7] rfl) (by omega) (by omega)
set_option maxRecDepth 100000 in
set_option maxHeartbeats 4000000 in
theorem zcs_17 (C : zlC p l s m c args D cy rf N b L xs H0) (hin : ∀ j : Int32, j = 1 ∨ j = 2 ∨ j = 3 ∨ j = 4 → vp_in (i + j) L) (hL : zLH D cy N σ ρ δ μ w v H) (sim : zsim σ μ τ) (mod : ymod μ τ) (his : zhist δ μ τ) (hN : zn τ 512 < 512) (hS : va_S (zLA N) H0 H locs) (hl : lv_has ls 9 [(5, .int i), (4, .ref (N + 379)), (3, .ref (N + 378)), (2, .ref (zxm N 30 0)), (1, .ref N), (0, .ref b)]) (hcs : cells + 2 ≤ 603072 ∧ slots + 12 ≤ 7223402) (kk : zlK p l e s m args below meth c Q D cy N b i H0 (zn τ 512 + 1) (cells + 2) (slots + 12)) : W p l e room_1 s m args below meth c H locs cells slots Q (F0 m 1291 ls []) := by
  obtain ⟨X, hml, hK, hE, hNc, hX, hbH, hbN, hl0⟩ := id C
  obtain ⟨hx, hb, -, -⟩ := id X
  have hbA : ¬ zLA N b := fun z => absurd hbN (Nat.not_lt.mpr z)
  have hV := sim.V mod
  have hyV := mod.V
  have hfull := zl_full his hN
  obtain ⟨e838, eP, τ1, ht1, sim1, mod1, his1⟩ := act_post (za_16 mod hN (xs (i + 1).toNatClampNeg) (xs (i + 2).toNatClampNeg)) sim mod his hN
  refine lv_aload_n hx hb dL_law_1291 rfl (lv_at hl 4 rfl) ?_
  refine lv_aload_n hx hb dL_law_1292 rfl (lv_at hl 5 rfl) ?_
  refine lv_iload hx hb dL_law_1293 (lv_at hl 0 rfl) ?_
  refine lv_iconst (v := 1) hx hb dL_law_1295 (by decide) ?_
  refine lv_iadd hx hb dL_law_1296 ?_
  refine va_sld hx hb hX hbH hbA hS (hin _ (by decide)) dL_law_1297 ?_
  refine lv_aload_n hx hb dL_law_1298 rfl (lv_at hl 5 rfl) ?_
  refine lv_iload hx hb dL_law_1299 (lv_at hl 0 rfl) ?_
  refine lv_iconst (v := 2) hx hb dL_law_1301 (by decide) ?_
  refine lv_iadd hx hb dL_law_1302 ?_
  refine va_sld hx hb hX hbH hbA hS (hin _ (by decide)) dL_law_1303 ?_
  refine lv_aload_n hx hb dL_law_1304 rfl (lv_at hl 2 rfl) ?_
  refine zlW (As := [.ref N, .int (xs (i + 1).toNatClampNeg), .int (xs (i + 2).toNatClampNeg), .ref (N + 378)]) (rest := []) X hml hK hE hNc hL (ctL_repair l hl0 D cy rf N (zxb N 0 0) (zxa N) σ (zxd N) δ zu_J (N + 378) w zu_ob (xs (i + 1).toNatClampNeg) (xs (i + 2).toNatClampNeg) hV his.1 hfull) zmL_repair (by decide) m_933 ⟨Nat.le_of_ble_eq_true rfl, Nat.le_of_ble_eq_true rfl⟩ ⟨by show _ ≤ 603072; omega, by show _ ≤ 7223402; omega⟩ rfl hl.1 rfl (Nat.le_of_ble_eq_true rfl) dL_law_1305 hS (fun H locs hL hS => ?_)
  refine lv_istore (lv' := [(6, .int (zkc [1, 3, 2] (k_ref σ (nI 16) (xs (i + 1).toNatClampNeg) (xs (i + 2).toNatClampNeg) 0 0))), (5, .int i), (4, .ref (N + 379)), (3, .ref (N + 378)), (2, .ref (zxm N 30 0)), (1, .ref N), (0, .ref b)]) hx hb dL_law_1308 hl (by decide) rfl (fun ls hl => ?_)
  refine lv_aload_n hx hb dL_law_1310 rfl (lv_at hl 4 rfl) ?_
  refine lv_aload_n hx hb dL_law_1311 rfl (lv_at hl 6 rfl) ?_
  refine lv_iload hx hb dL_law_1312 (lv_at hl 1 rfl) ?_
  refine lv_iconst (v := 1) hx hb dL_law_1314 (by decide) ?_
  refine lv_iadd hx hb dL_law_1315 ?_
  refine va_sld hx hb hX hbH hbA hS (hin _ (by decide)) dL_law_1316 ?_
  refine lv_aload_n hx hb dL_law_1317 rfl (lv_at hl 6 rfl) ?_
  refine lv_iload hx hb dL_law_1318 (lv_at hl 1 rfl) ?_
  refine lv_iconst (v := 2) hx hb dL_law_1320 (by decide) ?_
  refine lv_iadd hx hb dL_law_1321 ?_
  refine va_sld hx hb hX hbH hbA hS (hin _ (by decide)) dL_law_1322 ?_
  refine zlM (As := [.int (xs (i + 1).toNatClampNeg), .int (xs (i + 2).toNatClampNeg)]) (rest := []) X hml hK hL (ctX10_repair l D cy (zxm N) μ zu_jm (xs (i + 1).toNatClampNeg) (xs (i + 2).toNatClampNeg) hyV) zmX10_repair (by decide) m_1374 ⟨Nat.le_of_ble_eq_true rfl, Nat.le_of_ble_eq_true rfl⟩ ⟨by show _ ≤ 603072; omega, by show _ ≤ 7223402; omega⟩ rfl hl.1 rfl (Nat.le_of_ble_eq_true rfl) dL_law_1323 hS (fun H locs hL hS => ?_)
  refine lv_istore (lv' := [(7, .int (r_X10_repair μ (xs (i + 1).toNatClampNeg) (xs (i + 2).toNatClampNeg))), (6, .int (zkc [1, 3, 2] (k_ref σ (nI 16) (xs (i + 1).toNatClampNeg) (xs (i + 2).toNatClampNeg) 0 0))), (5, .int i), (4, .ref (N + 379)), (3, .ref (N + 378)), (2, .ref (zxm N 30 0)), (1, .ref N), (0, .ref b)]) hx hb dL_law_1326 hl (by decide) rfl (fun ls hl => ?_)
  refine lv_aload_n hx hb dL_law_1328 rfl (lv_at hl 5 rfl) ?_
  refine zlT (rest := []) X hml hK hL m_1251 ⟨Nat.le_of_ble_eq_true rfl, Nat.le_of_ble_eq_true rfl⟩ ⟨by show _ ≤ 603072; omega, by show _ ≤ 7223402; omega⟩ hl.1 (Nat.le_of_ble_eq_true rfl) dL_law_1329 ?_
  refine lv_iload hx hb dL_law_1332 (lv_at hl 1 rfl) ?_
  refine lv_icmp_eq (tgt := 1339) hx hb dL_law_1334 (by decide) (fun _ => ?_) (fun z => absurd e838 z)
  refine lv_iload hx hb dL_law_1339 (lv_at hl 1 rfl) ?_
  refine lv_if_ne (tgt := 1356) hx hb dL_law_1341 (by decide) (fun _ => ?_) (fun z => ?_)
  · refine lv_goto (tgt := 2283) hx hb dL_law_1356 (by decide) ?_
    exact kk _ _ _ _ _ _ _ _ _ _ _ _ hL sim1 mod1 his1 ht1 hS (lv_sub hl [2, 3, 4, 5, 6, 7] rfl) (by omega) (by omega)
  · have h0 := zkc_0 (by decide) z
    have hP := eP h0
    refine lv_aload_n hx hb dL_law_1344 rfl (lv_at hl 4 rfl) ?_
    refine lv_iconst (v := 0) hx hb dL_law_1345 (by decide) ?_
    refine zlO X hK hL dL_law_1346 ?_
    refine lv_iload hx hb dL_law_1347 (lv_at hl 0 rfl) ?_
    refine lv_i2l hx hb dL_law_1349 rfl ?_
    refine W.lcmp hx hb dL_law_1350 ?_
    refine lv_if_eq (tgt := 1356) hx hb dL_law_1351 (by decide) (fun _ => ?_) (fun z => absurd ((lg_cmp_eq _ _).mpr ((if_pos h0).trans (congrArg Int32.toInt64 hP.symm))) z)
    refine lv_goto (tgt := 2283) hx hb dL_law_1356 (by decide) ?_
    exact kk _ _ _ _ _ _ _ _ _ _ _ _ hL sim1 mod1 his1 ht1 hS (lv_sub hl [2, 3, 4, 5, 6, 7] rfl) (by omega) (by omega)
set_option maxRecDepth 100000 in
set_option maxHeartbeats 4000000 in
theorem zcs_19 (C : zlC p l s m c args D cy rf N b L xs H0) (hin : ∀ j : Int32, j = 1 ∨ j = 2 ∨ j = 3 ∨ j = 4 → vp_in (i + j) L) (hL : zLH D cy N σ ρ δ μ w v H) (sim : zsim σ μ τ) (mod : ymod μ τ) (his : zhist δ μ τ) (hN : zn τ 512 < 512) (hS : va_S (zLA N) H0 H locs) (hl : lv_has ls 9 [(5, .int i), (4, .ref (N + 379)), (3, .ref (N + 378)), (2, .ref (zxm N 30 0)), (1, .ref N), (0, .ref b)]) (hcs : cells + 2 ≤ 603072 ∧ slots + 12 ≤ 7223402) (kk : zlK p l e s m args below meth c Q D cy N b i H0 (zn τ 512 + 1) (cells + 2) (slots + 12)) : W p l e room_1 s m args below meth c H locs cells slots Q (F0 m 1443 ls []) := by
  obtain ⟨X, hml, hK, hE, hNc, hX, hbH, hbN, hl0⟩ := id C
  obtain ⟨hx, hb, -, -⟩ := id X
  have hbA : ¬ zLA N b := fun z => absurd hbN (Nat.not_lt.mpr z)
  have hV := sim.V mod
  have hyV := mod.V
  have hfull := zl_full his hN
  obtain ⟨e838, eP, τ1, ht1, sim1, mod1, his1⟩ := act_post (za_18 mod hN (xs (i + 1).toNatClampNeg) (xs (i + 2).toNatClampNeg) (xs (i + 3).toNatClampNeg)) sim mod his hN
  refine lv_aload_n hx hb dL_law_1443 rfl (lv_at hl 4 rfl) ?_
  refine lv_aload_n hx hb dL_law_1444 rfl (lv_at hl 5 rfl) ?_
  refine lv_iload hx hb dL_law_1445 (lv_at hl 0 rfl) ?_
  refine lv_iconst (v := 1) hx hb dL_law_1447 (by decide) ?_
  refine lv_iadd hx hb dL_law_1448 ?_
  refine va_sld hx hb hX hbH hbA hS (hin _ (by decide)) dL_law_1449 ?_
  refine lv_aload_n hx hb dL_law_1450 rfl (lv_at hl 5 rfl) ?_
  refine lv_iload hx hb dL_law_1451 (lv_at hl 0 rfl) ?_
  refine lv_iconst (v := 2) hx hb dL_law_1453 (by decide) ?_
  refine lv_iadd hx hb dL_law_1454 ?_
  refine va_sld hx hb hX hbH hbA hS (hin _ (by decide)) dL_law_1455 ?_
  refine lv_aload_n hx hb dL_law_1456 rfl (lv_at hl 5 rfl) ?_
  refine lv_iload hx hb dL_law_1457 (lv_at hl 0 rfl) ?_
  refine lv_iconst (v := 3) hx hb dL_law_1459 (by decide) ?_
  refine lv_iadd hx hb dL_law_1460 ?_
  refine va_sld hx hb hX hbH hbA hS (hin _ (by decide)) dL_law_1461 ?_
  refine lv_aload_n hx hb dL_law_1462 rfl (lv_at hl 2 rfl) ?_
  refine zlW (As := [.ref N, .int (xs (i + 1).toNatClampNeg), .int (xs (i + 2).toNatClampNeg), .int (xs (i + 3).toNatClampNeg), .ref (N + 378)]) (rest := []) X hml hK hE hNc hL (ctL_hire l hl0 D cy rf N (zxb N 0 0) (zxa N) σ (zxd N) δ zu_J (N + 378) w zu_ob (xs (i + 1).toNatClampNeg) (xs (i + 2).toNatClampNeg) (xs (i + 3).toNatClampNeg) hV his.1 hfull) zmL_hire (by decide) m_947 ⟨Nat.le_of_ble_eq_true rfl, Nat.le_of_ble_eq_true rfl⟩ ⟨by show _ ≤ 603072; omega, by show _ ≤ 7223402; omega⟩ rfl hl.1 rfl (Nat.le_of_ble_eq_true rfl) dL_law_1463 hS (fun H locs hL hS => ?_)
  refine lv_istore (lv' := [(6, .int (zkc [1, 2, 3] (k_ref σ (nI 18) (xs (i + 1).toNatClampNeg) (xs (i + 2).toNatClampNeg) (xs (i + 3).toNatClampNeg) 0))), (5, .int i), (4, .ref (N + 379)), (3, .ref (N + 378)), (2, .ref (zxm N 30 0)), (1, .ref N), (0, .ref b)]) hx hb dL_law_1466 hl (by decide) rfl (fun ls hl => ?_)
  refine lv_aload_n hx hb dL_law_1468 rfl (lv_at hl 4 rfl) ?_
  refine lv_aload_n hx hb dL_law_1469 rfl (lv_at hl 6 rfl) ?_
  refine lv_iload hx hb dL_law_1470 (lv_at hl 1 rfl) ?_
  refine lv_iconst (v := 1) hx hb dL_law_1472 (by decide) ?_
  refine lv_iadd hx hb dL_law_1473 ?_
  refine va_sld hx hb hX hbH hbA hS (hin _ (by decide)) dL_law_1474 ?_
  refine lv_aload_n hx hb dL_law_1475 rfl (lv_at hl 6 rfl) ?_
  refine lv_iload hx hb dL_law_1476 (lv_at hl 1 rfl) ?_
  refine lv_iconst (v := 2) hx hb dL_law_1478 (by decide) ?_
  refine lv_iadd hx hb dL_law_1479 ?_
  refine va_sld hx hb hX hbH hbA hS (hin _ (by decide)) dL_law_1480 ?_
  refine lv_aload_n hx hb dL_law_1481 rfl (lv_at hl 6 rfl) ?_
  refine lv_iload hx hb dL_law_1482 (lv_at hl 1 rfl) ?_
  refine lv_iconst (v := 3) hx hb dL_law_1484 (by decide) ?_
  refine lv_iadd hx hb dL_law_1485 ?_
  refine va_sld hx hb hX hbH hbA hS (hin _ (by decide)) dL_law_1486 ?_
  refine zlM (As := [.int (xs (i + 1).toNatClampNeg), .int (xs (i + 2).toNatClampNeg), .int (xs (i + 3).toNatClampNeg)]) (rest := []) X hml hK hL (ctX10_hire l D cy (zxm N) μ zu_jm (xs (i + 1).toNatClampNeg) (xs (i + 2).toNatClampNeg) (xs (i + 3).toNatClampNeg) hyV) zmX10_hire (by decide) m_1422 ⟨Nat.le_of_ble_eq_true rfl, Nat.le_of_ble_eq_true rfl⟩ ⟨by show _ ≤ 603072; omega, by show _ ≤ 7223402; omega⟩ rfl hl.1 rfl (Nat.le_of_ble_eq_true rfl) dL_law_1487 hS (fun H locs hL hS => ?_)
  refine lv_istore (lv' := [(7, .int (r_X10_hire μ (xs (i + 1).toNatClampNeg) (xs (i + 2).toNatClampNeg) (xs (i + 3).toNatClampNeg))), (6, .int (zkc [1, 2, 3] (k_ref σ (nI 18) (xs (i + 1).toNatClampNeg) (xs (i + 2).toNatClampNeg) (xs (i + 3).toNatClampNeg) 0))), (5, .int i), (4, .ref (N + 379)), (3, .ref (N + 378)), (2, .ref (zxm N 30 0)), (1, .ref N), (0, .ref b)]) hx hb dL_law_1490 hl (by decide) rfl (fun ls hl => ?_)
  refine lv_aload_n hx hb dL_law_1492 rfl (lv_at hl 5 rfl) ?_
  refine zlT (rest := []) X hml hK hL m_1251 ⟨Nat.le_of_ble_eq_true rfl, Nat.le_of_ble_eq_true rfl⟩ ⟨by show _ ≤ 603072; omega, by show _ ≤ 7223402; omega⟩ hl.1 (Nat.le_of_ble_eq_true rfl) dL_law_1493 ?_
  refine lv_iload hx hb dL_law_1496 (lv_at hl 1 rfl) ?_
  refine lv_icmp_eq (tgt := 1503) hx hb dL_law_1498 (by decide) (fun _ => ?_) (fun z => absurd e838 z)
  refine lv_iload hx hb dL_law_1503 (lv_at hl 1 rfl) ?_
  refine lv_if_ne (tgt := 1520) hx hb dL_law_1505 (by decide) (fun _ => ?_) (fun z => ?_)
  · refine lv_goto (tgt := 2283) hx hb dL_law_1520 (by decide) ?_
    exact kk _ _ _ _ _ _ _ _ _ _ _ _ hL sim1 mod1 his1 ht1 hS (lv_sub hl [2, 3, 4, 5, 6, 7] rfl) (by omega) (by omega)
  · have h0 := zkc_0 (by decide) z
    have hP := eP h0
    refine lv_aload_n hx hb dL_law_1508 rfl (lv_at hl 4 rfl) ?_
    refine lv_iconst (v := 0) hx hb dL_law_1509 (by decide) ?_
    refine zlO X hK hL dL_law_1510 ?_
    refine lv_iload hx hb dL_law_1511 (lv_at hl 0 rfl) ?_
    refine lv_i2l hx hb dL_law_1513 rfl ?_
    refine W.lcmp hx hb dL_law_1514 ?_
    refine lv_if_eq (tgt := 1520) hx hb dL_law_1515 (by decide) (fun _ => ?_) (fun z => absurd ((lg_cmp_eq _ _).mpr ((if_pos h0).trans (congrArg Int32.toInt64 hP.symm))) z)
    refine lv_goto (tgt := 2283) hx hb dL_law_1520 (by decide) ?_
    exact kk _ _ _ _ _ _ _ _ _ _ _ _ hL sim1 mod1 his1 ht1 hS (lv_sub hl [2, 3, 4, 5, 6, 7] rfl) (by omega) (by omega)
end ZCS
