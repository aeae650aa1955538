section ZCS
variable {p : Program} {l : Launch} {e : Env} {s : State} {m : MethodId} {args : Array Value} {below : List Frame} {meth : Method} {c : Code} {H : Heap} {locs : List Loc} {cells slots : Nat} {Q : State → Prop} {ls : Array Slot} {D : va_G} {cy : Nat → ClassId} {rf : Nat → Nat} {b L N : Nat} {xs : Nat → Int32} {i : Int32} {H0 : Heap} {σ ρ δ μ τ : zS} {w : Int64} {v : UInt64}

set_option maxRecDepth 100000 in
set_option maxHeartbeats 4000000 in
theorem zcs_2 (C : zlC p l s m c args D cy rf N b L xs H0) (hin : ∀ j : Int32, j = 1 ∨ j = 2 ∨ j = 3 ∨ j = 4 → vp_in (i + j) L) (hL : zLH D cy N σ ρ δ μ w v H) (sim : zsim σ μ τ) (mod : ymod μ τ) (his : zhist δ μ τ) (hN : zn τ 512 < 512) (hS : va_S (zLA N) H0 H locs) (hl : lv_has ls 9 [(5, .int i), (4, .ref (N + 379)), (3, .ref (N + 378)), (2, .ref (zxm N 30 0)), (1, .ref N), (0, .ref b)]) (hcs : cells + 2 ≤ 603072 ∧ slots + 12 ≤ 7223402) (kk : zlK p l e s m args below meth c Q D cy N b i H0 (zn τ 512 + 1) (cells + 2) (slots + 12)) : W p l e room_1 s m args below meth c H locs cells slots Q (F0 m 344 ls []) := by
  obtain ⟨X, hml, hK, hE, hNc, hX, hbH, hbN, hl0⟩ := id C
  obtain ⟨hx, hb, -, -⟩ := id X
  have hbA : ¬ zLA N b := fun z => absurd hbN (Nat.not_lt.mpr z)
  have hV := sim.V mod
  have hyV := mod.V
  have hfull := zl_full his hN
  obtain ⟨e838, eP, τ1, ht1, sim1, mod1, his1⟩ := act_post (za_2 mod hN (((xs (i + 1).toNatClampNeg).toUInt32 % 65536).toInt32) (xs (i + 2).toNatClampNeg) (xs (i + 3).toNatClampNeg) (xs (i + 4).toNatClampNeg)) sim mod his hN
  refine lv_aload_n hx hb dL_law_344 rfl (lv_at hl 4 rfl) ?_
  refine lv_aload_n hx hb dL_law_345 rfl (lv_at hl 5 rfl) ?_
  refine lv_iload hx hb dL_law_346 (lv_at hl 0 rfl) ?_
  refine lv_iconst (v := 1) hx hb dL_law_348 (by decide) ?_
  refine lv_iadd hx hb dL_law_349 ?_
  refine va_sld hx hb hX hbH hbA hS (hin _ (by decide)) dL_law_350 ?_
  refine lv_i2c (v := ((xs (i + 1).toNatClampNeg).toUInt32 % 65536).toInt32) hx hb dL_law_351 rfl ?_
  refine lv_aload_n hx hb dL_law_352 rfl (lv_at hl 5 rfl) ?_
  refine lv_iload hx hb dL_law_353 (lv_at hl 0 rfl) ?_
  refine lv_iconst (v := 2) hx hb dL_law_355 (by decide) ?_
  refine lv_iadd hx hb dL_law_356 ?_
  refine va_sld hx hb hX hbH hbA hS (hin _ (by decide)) dL_law_357 ?_
  refine lv_aload_n hx hb dL_law_358 rfl (lv_at hl 5 rfl) ?_
  refine lv_iload hx hb dL_law_359 (lv_at hl 0 rfl) ?_
  refine lv_iconst (v := 3) hx hb dL_law_361 (by decide) ?_
  refine lv_iadd hx hb dL_law_362 ?_
  refine va_sld hx hb hX hbH hbA hS (hin _ (by decide)) dL_law_363 ?_
  refine lv_aload_n hx hb dL_law_364 rfl (lv_at hl 5 rfl) ?_
  refine lv_iload hx hb dL_law_365 (lv_at hl 0 rfl) ?_
  refine lv_iconst (v := 4) hx hb dL_law_367 (by decide) ?_
  refine lv_iadd hx hb dL_law_368 ?_
  refine va_sld hx hb hX hbH hbA hS (hin _ (by decide)) dL_law_369 ?_
  refine lv_aload_n hx hb dL_law_370 rfl (lv_at hl 2 rfl) ?_
  refine zlW (As := [.ref N, .int (((xs (i + 1).toNatClampNeg).toUInt32 % 65536).toInt32), .int (xs (i + 2).toNatClampNeg), .int (xs (i + 3).toNatClampNeg), .int (xs (i + 4).toNatClampNeg), .ref (N + 378)]) (rest := []) X hml hK hE hNc hL (ctL_addCanopy l hl0 D cy rf N (zxb N 0 0) (zxa N) σ (zxd N) δ zu_J (N + 378) w zu_ob (((xs (i + 1).toNatClampNeg).toUInt32 % 65536).toInt32) (xs (i + 2).toNatClampNeg) (xs (i + 3).toNatClampNeg) (xs (i + 4).toNatClampNeg) hV his.1 hfull) zmL_addCanopy (by decide) m_821 ⟨Nat.le_of_ble_eq_true rfl, Nat.le_of_ble_eq_true rfl⟩ ⟨by show _ ≤ 603072; omega, by show _ ≤ 7223402; omega⟩ rfl hl.1 rfl (Nat.le_of_ble_eq_true rfl) dL_law_371 hS (fun H locs hL hS => ?_)
  refine lv_istore (lv' := [(6, .int (zkc [2, 4] (k_ref σ (nI 2) (((xs (i + 1).toNatClampNeg).toUInt32 % 65536).toInt32) (xs (i + 2).toNatClampNeg) (xs (i + 3).toNatClampNeg) (xs (i + 4).toNatClampNeg)))), (5, .int i), (4, .ref (N + 379)), (3, .ref (N + 378)), (2, .ref (zxm N 30 0)), (1, .ref N), (0, .ref b)]) hx hb dL_law_374 hl (by decide) rfl (fun ls hl => ?_)
  refine lv_aload_n hx hb dL_law_376 rfl (lv_at hl 4 rfl) ?_
  refine lv_aload_n hx hb dL_law_377 rfl (lv_at hl 6 rfl) ?_
  refine lv_iload hx hb dL_law_378 (lv_at hl 1 rfl) ?_
  refine lv_iconst (v := 1) hx hb dL_law_380 (by decide) ?_
  refine lv_iadd hx hb dL_law_381 ?_
  refine va_sld hx hb hX hbH hbA hS (hin _ (by decide)) dL_law_382 ?_
  refine lv_i2c (v := ((xs (i + 1).toNatClampNeg).toUInt32 % 65536).toInt32) hx hb dL_law_383 rfl ?_
  refine lv_aload_n hx hb dL_law_384 rfl (lv_at hl 6 rfl) ?_
  refine lv_iload hx hb dL_law_385 (lv_at hl 1 rfl) ?_
  refine lv_iconst (v := 2) hx hb dL_law_387 (by decide) ?_
  refine lv_iadd hx hb dL_law_388 ?_
  refine va_sld hx hb hX hbH hbA hS (hin _ (by decide)) dL_law_389 ?_
  refine lv_aload_n hx hb dL_law_390 rfl (lv_at hl 6 rfl) ?_
  refine lv_iload hx hb dL_law_391 (lv_at hl 1 rfl) ?_
  refine lv_iconst (v := 3) hx hb dL_law_393 (by decide) ?_
  refine lv_iadd hx hb dL_law_394 ?_
  refine va_sld hx hb hX hbH hbA hS (hin _ (by decide)) dL_law_395 ?_
  refine lv_aload_n hx hb dL_law_396 rfl (lv_at hl 6 rfl) ?_
  refine lv_iload hx hb dL_law_397 (lv_at hl 1 rfl) ?_
  refine lv_iconst (v := 4) hx hb dL_law_399 (by decide) ?_
  refine lv_iadd hx hb dL_law_400 ?_
  refine va_sld hx hb hX hbH hbA hS (hin _ (by decide)) dL_law_401 ?_
  refine zlM (As := [.int (((xs (i + 1).toNatClampNeg).toUInt32 % 65536).toInt32), .int (xs (i + 2).toNatClampNeg), .int (xs (i + 3).toNatClampNeg), .int (xs (i + 4).toNatClampNeg)]) (rest := []) X hml hK hL (ctX10_addCanopy l D cy (zxm N) μ zu_jm (((xs (i + 1).toNatClampNeg).toUInt32 % 65536).toInt32) (xs (i + 2).toNatClampNeg) (xs (i + 3).toNatClampNeg) (xs (i + 4).toNatClampNeg) hyV) zmX10_addCanopy (by decide) m_1278 ⟨Nat.le_of_ble_eq_true rfl, Nat.le_of_ble_eq_true rfl⟩ ⟨by show _ ≤ 603072; omega, by show _ ≤ 7223402; omega⟩ rfl hl.1 rfl (Nat.le_of_ble_eq_true rfl) dL_law_402 hS (fun H locs hL hS => ?_)
  refine lv_istore (lv' := [(7, .int (r_X10_addCanopy μ (((xs (i + 1).toNatClampNeg).toUInt32 % 65536).toInt32) (xs (i + 2).toNatClampNeg) (xs (i + 3).toNatClampNeg) (xs (i + 4).toNatClampNeg))), (6, .int (zkc [2, 4] (k_ref σ (nI 2) (((xs (i + 1).toNatClampNeg).toUInt32 % 65536).toInt32) (xs (i + 2).toNatClampNeg) (xs (i + 3).toNatClampNeg) (xs (i + 4).toNatClampNeg)))), (5, .int i), (4, .ref (N + 379)), (3, .ref (N + 378)), (2, .ref (zxm N 30 0)), (1, .ref N), (0, .ref b)]) hx hb dL_law_405 hl (by decide) rfl (fun ls hl => ?_)
  refine lv_aload_n hx hb dL_law_407 rfl (lv_at hl 5 rfl) ?_
  refine zlT (rest := []) X hml hK hL m_1251 ⟨Nat.le_of_ble_eq_true rfl, Nat.le_of_ble_eq_true rfl⟩ ⟨by show _ ≤ 603072; omega, by show _ ≤ 7223402; omega⟩ hl.1 (Nat.le_of_ble_eq_true rfl) dL_law_408 ?_
  refine lv_iload hx hb dL_law_411 (lv_at hl 1 rfl) ?_
  refine lv_icmp_eq (tgt := 418) hx hb dL_law_413 (by decide) (fun _ => ?_) (fun z => absurd e838 z)
  refine lv_iload hx hb dL_law_418 (lv_at hl 1 rfl) ?_
  refine lv_if_ne (tgt := 435) hx hb dL_law_420 (by decide) (fun _ => ?_) (fun z => ?_)
  · refine lv_goto (tgt := 2283) hx hb dL_law_435 (by decide) ?_
    exact kk _ _ _ _ _ _ _ _ _ _ _ _ hL sim1 mod1 his1 ht1 hS (lv_sub hl [2, 3, 4, 5, 6, 7] rfl) (by omega) (by omega)
  · have h0 := zkc_0 (by decide) z
    have hP := eP h0
    refine lv_aload_n hx hb dL_law_423 rfl (lv_at hl 4 rfl) ?_
    refine lv_iconst (v := 0) hx hb dL_law_424 (by decide) ?_
    refine zlO X hK hL dL_law_425 ?_
    refine lv_iload hx hb dL_law_426 (lv_at hl 0 rfl) ?_
    refine lv_i2l hx hb dL_law_428 rfl ?_
    refine W.lcmp hx hb dL_law_429 ?_
    refine lv_if_eq (tgt := 435) hx hb dL_law_430 (by decide) (fun _ => ?_) (fun z => absurd ((lg_cmp_eq _ _).mpr ((if_pos h0).trans (congrArg Int32.toInt64 hP.1.symm))) z)
    refine lv_goto (tgt := 2283) hx hb dL_law_435 (by decide) ?_
    exact kk _ _ _ _ _ _ _ _ _ _ _ _ hL sim1 mod1 his1 ht1 hS (lv_sub hl [2, 3, 4, 5, 6, 7] rfl) (by omega) (by omega)
set_option maxRecDepth 100000 in
set_option maxHeartbeats 4000000 in
theorem zcs_14 (C : zlC p l s m c args D cy rf N b L xs H0) (hin : ∀ j : Int32, j = 1 ∨ j = 2 ∨ j = 3 ∨ j = 4 → vp_in (i + j) L) (hL : zLH D cy N σ ρ δ μ w v H) (sim : zsim σ μ τ) (mod : ymod μ τ) (his : zhist δ μ τ) (hN : zn τ 512 < 512) (hS : va_S (zLA N) H0 H locs) (hl : lv_has ls 9 [(5, .int i), (4, .ref (N + 379)), (3, .ref (N + 378)), (2, .ref (zxm N 30 0)), (1, .ref N), (0, .ref b)]) (hcs : cells + 2 ≤ 603072 ∧ slots + 12 ≤ 7223402) (kk : zlK p l e s m args below meth c Q D cy N b i H0 (zn τ 512 + 1) (cells + 2) (slots + 12)) : W p l e room_1 s m args below meth c H locs cells slots Q (F0 m 1102 ls []) := by
  obtain ⟨X, hml, hK, hE, hNc, hX, hbH, hbN, hl0⟩ := id C
  obtain ⟨hx, hb, -, -⟩ := id X
  have hbA : ¬ zLA N b := fun z => absurd hbN (Nat.not_lt.mpr z)
  have hV := sim.V mod
  have hyV := mod.V
  have hfull := zl_full his hN
  obtain ⟨e838, eP, τ1, ht1, sim1, mod1, his1⟩ := act_post (za_14 mod hN (xs (i + 1).toNatClampNeg) (((xs (i + 2).toNatClampNeg).toUInt32 % 65536).toInt32)) sim mod his hN
  refine lv_aload_n hx hb dL_law_1102 rfl (lv_at hl 4 rfl) ?_
  refine lv_aload_n hx hb dL_law_1103 rfl (lv_at hl 5 rfl) ?_
  refine lv_iload hx hb dL_law_1104 (lv_at hl 0 rfl) ?_
  refine lv_iconst (v := 1) hx hb dL_law_1106 (by decide) ?_
  refine lv_iadd hx hb dL_law_1107 ?_
  refine va_sld hx hb hX hbH hbA hS (hin _ (by decide)) dL_law_1108 ?_
  refine lv_aload_n hx hb dL_law_1109 rfl (lv_at hl 5 rfl) ?_
  refine lv_iload hx hb dL_law_1110 (lv_at hl 0 rfl) ?_
  refine lv_iconst (v := 2) hx hb dL_law_1112 (by decide) ?_
  refine lv_iadd hx hb dL_law_1113 ?_
  refine va_sld hx hb hX hbH hbA hS (hin _ (by decide)) dL_law_1114 ?_
  refine lv_i2c (v := ((xs (i + 2).toNatClampNeg).toUInt32 % 65536).toInt32) hx hb dL_law_1115 rfl ?_
  refine lv_aload_n hx hb dL_law_1116 rfl (lv_at hl 2 rfl) ?_
  refine zlW (As := [.ref N, .int (xs (i + 1).toNatClampNeg), .int (((xs (i + 2).toNatClampNeg).toUInt32 % 65536).toInt32), .ref (N + 378)]) (rest := []) X hml hK hE hNc hL (ctL_tellCause l hl0 D cy rf N (zxb N 0 0) (zxa N) σ (zxd N) δ zu_J (N + 378) w zu_ob (xs (i + 1).toNatClampNeg) (((xs (i + 2).toNatClampNeg).toUInt32 % 65536).toInt32) hV his.1 hfull) zmL_tellCause (by decide) m_906 ⟨Nat.le_of_ble_eq_true rfl, Nat.le_of_ble_eq_true rfl⟩ ⟨by show _ ≤ 603072; omega, by show _ ≤ 7223402; omega⟩ rfl hl.1 rfl (Nat.le_of_ble_eq_true rfl) dL_law_1117 hS (fun H locs hL hS => ?_)
  refine lv_istore (lv' := [(6, .int (zkc [1, 2, 3] (k_ref σ (nI 14) (xs (i + 1).toNatClampNeg) (((xs (i + 2).toNatClampNeg).toUInt32 % 65536).toInt32) 0 0))), (5, .int i), (4, .ref (N + 379)), (3, .ref (N + 378)), (2, .ref (zxm N 30 0)), (1, .ref N), (0, .ref b)]) hx hb dL_law_1120 hl (by decide) rfl (fun ls hl => ?_)
  refine lv_aload_n hx hb dL_law_1122 rfl (lv_at hl 4 rfl) ?_
  refine lv_aload_n hx hb dL_law_1123 rfl (lv_at hl 6 rfl) ?_
  refine lv_iload hx hb dL_law_1124 (lv_at hl 1 rfl) ?_
  refine lv_iconst (v := 1) hx hb dL_law_1126 (by decide) ?_
  refine lv_iadd hx hb dL_law_1127 ?_
  refine va_sld hx hb hX hbH hbA hS (hin _ (by decide)) dL_law_1128 ?_
  refine lv_aload_n hx hb dL_law_1129 rfl (lv_at hl 6 rfl) ?_
  refine lv_iload hx hb dL_law_1130 (lv_at hl 1 rfl) ?_
  refine lv_iconst (v := 2) hx hb dL_law_1132 (by decide) ?_
  refine lv_iadd hx hb dL_law_1133 ?_
  refine va_sld hx hb hX hbH hbA hS (hin _ (by decide)) dL_law_1134 ?_
  refine lv_i2c (v := ((xs (i + 2).toNatClampNeg).toUInt32 % 65536).toInt32) hx hb dL_law_1135 rfl ?_
  refine zlM (As := [.int (xs (i + 1).toNatClampNeg), .int (((xs (i + 2).toNatClampNeg).toUInt32 % 65536).toInt32)]) (rest := []) X hml hK hL (ctX10_tellCause l D cy (zxm N) μ zu_jm (xs (i + 1).toNatClampNeg) (((xs (i + 2).toNatClampNeg).toUInt32 % 65536).toInt32) hyV) zmX10_tellCause (by decide) m_1338 ⟨Nat.le_of_ble_eq_true rfl, Nat.le_of_ble_eq_true rfl⟩ ⟨by show _ ≤ 603072; omega, by show _ ≤ 7223402; omega⟩ rfl hl.1 rfl (Nat.le_of_ble_eq_true rfl) dL_law_1136 hS (fun H locs hL hS => ?_)
  refine lv_istore (lv' := [(7, .int (r_X10_tellCause μ (xs (i + 1).toNatClampNeg) (((xs (i + 2).toNatClampNeg).toUInt32 % 65536).toInt32))), (6, .int (zkc [1, 2, 3] (k_ref σ (nI 14) (xs (i + 1).toNatClampNeg) (((xs (i + 2).toNatClampNeg).toUInt32 % 65536).toInt32) 0 0))), (5, .int i), (4, .ref (N + 379)), (3, .ref (N + 378)), (2, .ref (zxm N 30 0)), (1, .ref N), (0, .ref b)]) hx hb dL_law_1139 hl (by decide) rfl (fun ls hl => ?_)
  refine lv_aload_n hx hb dL_law_1141 rfl (lv_at hl 5 rfl) ?_
  refine zlT (rest := []) X hml hK hL m_1251 ⟨Nat.le_of_ble_eq_true rfl, Nat.le_of_ble_eq_true rfl⟩ ⟨by show _ ≤ 603072; omega, by show _ ≤ 7223402; omega⟩ hl.1 (Nat.le_of_ble_eq_true rfl) dL_law_1142 ?_
  refine lv_iload hx hb dL_law_1145 (lv_at hl 1 rfl) ?_
  refine lv_icmp_eq (tgt := 1152) hx hb dL_law_1147 (by decide) (fun _ => ?_) (fun z => absurd e838 z)
  refine lv_iload hx hb dL_law_1152 (lv_at hl 1 rfl) ?_
  refine lv_if_ne (tgt := 1169) hx hb dL_law_1154 (by decide) (fun _ => ?_) (fun z => ?_)
  · refine lv_goto (tgt := 2283) hx hb dL_law_1169 (by decide) ?_
    exact kk _ _ _ _ _ _ _ _ _ _ _ _ hL sim1 mod1 his1 ht1 hS (lv_sub hl [2, 3, 4, 5, 6, 7] rfl) (by omega) (by omega)
  · have h0 := zkc_0 (by decide) z
    have hP := eP h0
    refine lv_aload_n hx hb dL_law_1157 rfl (lv_at hl 4 rfl) ?_
    refine lv_iconst (v := 0) hx hb dL_law_1158 (by decide) ?_
    refine zlO X hK hL dL_law_1159 ?_
    refine lv_iload hx hb dL_law_1160 (lv_at hl 0 rfl) ?_
    refine lv_i2l hx hb dL_law_1162 rfl ?_
    refine W.lcmp hx hb dL_law_1163 ?_
    refine lv_if_eq (tgt := 1169) hx hb dL_law_1164 (by decide) (fun _ => ?_) (fun z => absurd ((lg_cmp_eq _ _).mpr ((if_pos h0).trans (congrArg Int32.toInt64 hP.1.symm))) z)
    refine lv_goto (tgt := 2283) hx hb dL_law_1169 (by decide) ?_
    exact kk _ _ _ _ _ _ _ _ _ _ _ _ hL sim1 mod1 his1 ht1 hS (lv_sub hl [2, 3, 4, 5, 6, 7] rfl) (by omega) (by omega)
set_option maxRecDepth 100000 in
set_option maxHeartbeats 4000000 in
theorem zcs_15 (C : zlC p l s m c args D cy rf N b L xs H0) (hin : ∀ j : Int32, j = 1 ∨ j = 2 ∨ j = 3 ∨ j = 4 → vp_in (i + j) L) (hL : zLH D cy N σ ρ δ μ w v H) (sim : zsim σ μ τ) (mod : ymod μ τ) (his : zhist δ μ τ) (hN : zn τ 512 < 512) (hS : va_S (zLA N) H0 H locs) (hl : lv_has ls 9 [(5, .int i), (4, .ref (N + 379)), (3, .ref (N + 378)), (2, .ref (zxm N 30 0)), (1, .ref N), (0, .ref b)]) (hcs : cells + 2 ≤ 603072 ∧ slots + 12 ≤ 7223402) (kk : zlK p l e s m args below meth c Q D cy N b i H0 (zn τ 512 + 1) (cells + 2) (slots + 12)) : W p l e room_1 s m args below meth c H locs cells slots Q (F0 m 1172 ls []) := by
  obtain ⟨X, hml, hK, hE, hNc, hX, hbH, hbN, hl0⟩ := id C
  obtain ⟨hx, hb, -, -⟩ := id X
  have hbA : ¬ zLA N b := fun z => absurd hbN (Nat.not_lt.mpr z)
  have hV := sim.V mod
  have hyV := mod.V
  have hfull := zl_full his hN
  obtain ⟨e838, eP, τ1, ht1, sim1, mod1, his1⟩ := act_post (za_15 mod hN (xs (i + 1).toNatClampNeg)) sim mod his hN
  refine lv_aload_n hx hb dL_law_1172 rfl (lv_at hl 4 rfl) ?_
  refine lv_aload_n hx hb dL_law_1173 rfl (lv_at hl 5 rfl) ?_
  refine lv_iload hx hb dL_law_1174 (lv_at hl 0 rfl) ?_
  refine lv_iconst (v := 1) hx hb dL_law_1176 (by decide) ?_
  refine lv_iadd hx hb dL_law_1177 ?_
  refine va_sld hx hb hX hbH hbA hS (hin _ (by decide)) dL_law_1178 ?_
  refine lv_aload_n hx hb dL_law_1179 rfl (lv_at hl 2 rfl) ?_
  refine zlW (As := [.ref N, .int (xs (i + 1).toNatClampNeg), .ref (N + 378)]) (rest := []) X hml hK hE hNc hL (ctL_close l hl0 D cy rf N (zxb N 0 0) (zxa N) σ (zxd N) δ zu_J (N + 378) w zu_ob (xs (i + 1).toNatClampNeg) hV his.1 hfull) zmL_close (by decide) m_913 ⟨Nat.le_of_ble_eq_true rfl, Nat.le_of_ble_eq_true rfl⟩ ⟨by show _ ≤ 603072; omega, by show _ ≤ 7223402; omega⟩ rfl hl.1 rfl (Nat.le_of_ble_eq_true rfl) dL_law_1180 hS (fun H locs hL hS => ?_)
  refine lv_istore (lv' := [(6, .int (zkc [1] (k_ref σ (nI 15) (xs (i + 1).toNatClampNeg) 0 0 0))), (5, .int i), (4, .ref (N + 379)), (3, .ref (N + 378)), (2, .ref (zxm N 30 0)), (1, .ref N), (0, .ref b)]) hx hb dL_law_1183 hl (by decide) rfl (fun ls hl => ?_)
  refine lv_aload_n hx hb dL_law_1185 rfl (lv_at hl 4 rfl) ?_
  refine lv_aload_n hx hb dL_law_1186 rfl (lv_at hl 6 rfl) ?_
  refine lv_iload hx hb dL_law_1187 (lv_at hl 1 rfl) ?_
  refine lv_iconst (v := 1) hx hb dL_law_1189 (by decide) ?_
  refine lv_iadd hx hb dL_law_1190 ?_
  refine va_sld hx hb hX hbH hbA hS (hin _ (by decide)) dL_law_1191 ?_
  refine zlM (As := [.int (xs (i + 1).toNatClampNeg)]) (rest := []) X hml hK hL (ctX10_close l D cy (zxm N) μ zu_jm (xs (i + 1).toNatClampNeg) hyV) zmX10_close (by decide) m_1342 ⟨Nat.le_of_ble_eq_true rfl, Nat.le_of_ble_eq_true rfl⟩ ⟨by show _ ≤ 603072; omega, by show _ ≤ 7223402; omega⟩ rfl hl.1 rfl (Nat.le_of_ble_eq_true rfl) dL_law_1192 hS (fun H locs hL hS => ?_)
  refine lv_istore (lv' := [(7, .int (bI (r_X10_close μ (xs (i + 1).toNatClampNeg)))), (6, .int (zkc [1] (k_ref σ (nI 15) (xs (i + 1).toNatClampNeg) 0 0 0))), (5, .int i), (4, .ref (N + 379)), (3, .ref (N + 378)), (2, .ref (zxm N 30 0)), (1, .ref N), (0, .ref b)]) hx hb dL_law_1195 hl (by decide) rfl (fun ls hl => ?_)
  refine lv_aload_n hx hb dL_law_1197 rfl (lv_at hl 5 rfl) ?_
  refine zlT (rest := []) X hml hK hL m_1251 ⟨Nat.le_of_ble_eq_true rfl, Nat.le_of_ble_eq_true rfl⟩ ⟨by show _ ≤ 603072; omega, by show _ ≤ 7223402; omega⟩ hl.1 (Nat.le_of_ble_eq_true rfl) dL_law_1198 ?_
  refine lv_iload hx hb dL_law_1201 (lv_at hl 1 rfl) ?_
  refine lv_icmp_eq (tgt := 1208) hx hb dL_law_1203 (by decide) (fun _ => ?_) (fun z => absurd e838 z)
  refine lv_iload hx hb dL_law_1208 (lv_at hl 1 rfl) ?_
  refine lv_if_ne (tgt := 1232) hx hb dL_law_1210 (by decide) (fun _ => ?_) (fun z => ?_)
  · refine lv_goto (tgt := 2283) hx hb dL_law_1232 (by decide) ?_
    exact kk _ _ _ _ _ _ _ _ _ _ _ _ hL sim1 mod1 his1 ht1 hS (lv_sub hl [2, 3, 4, 5, 6, 7] rfl) (by omega) (by omega)
  · have h0 := zkc_0 (by decide) z
    have hP := eP h0
    refine lv_aload_n hx hb dL_law_1213 rfl (lv_at hl 4 rfl) ?_
    refine lv_iconst (v := 0) hx hb dL_law_1214 (by decide) ?_
    refine zlO X hK hL dL_law_1215 ?_
    refine lv_iload hx hb dL_law_1216 (lv_at hl 0 rfl) ?_
    refine zb_eq (tgt := 1225) hx hb dL_law_1218 (by decide) (fun qb => ?_) (fun qb => ?_)
    · refine lv_lconst (v := 0) hx hb dL_law_1225 rfl ?_
      refine W.lcmp hx hb dL_law_1226 ?_
      refine lv_if_eq (tgt := 1232) hx hb dL_law_1227 (by decide) (fun _ => ?_) (fun z => absurd ((lg_cmp_eq _ _).mpr ((if_pos h0).trans (by rw [← hP, qb]; rfl))) z)
      refine lv_goto (tgt := 2283) hx hb dL_law_1232 (by decide) ?_
      exact kk _ _ _ _ _ _ _ _ _ _ _ _ hL sim1 mod1 his1 ht1 hS (lv_sub hl [2, 3, 4, 5, 6, 7] rfl) (by omega) (by omega)
    · refine lv_lconst (v := 1) hx hb dL_law_1221 rfl ?_
      refine lv_goto (tgt := 1226) hx hb dL_law_1222 (by decide) ?_
      refine W.lcmp hx hb dL_law_1226 ?_
      refine lv_if_eq (tgt := 1232) hx hb dL_law_1227 (by decide) (fun _ => ?_) (fun z => absurd ((lg_cmp_eq _ _).mpr ((if_pos h0).trans (by rw [← hP, qb]; rfl))) z)
      refine lv_goto (tgt := 2283) hx hb dL_law_1232 (by decide) ?_
      exact kk _ _ _ _ _ _ _ _ _ _ _ _ hL sim1 mod1 his1 ht1 hS (lv_sub hl [2, 3, 4, 5, 6, 7] rfl) (by omega) (by omega)
set_option maxRecDepth 100000 in
set_option maxHeartbeats 4000000 in
theorem zcs_16 (C : zlC p l s m c args D cy rf N b L xs H0) (hin : ∀ j : Int32, j = 1 ∨ j = 2 ∨ j = 3 ∨ j = 4 → vp_in (i + j) L) (hL : zLH D cy N σ ρ δ μ w v H) (sim : zsim σ μ τ) (mod : ymod μ τ) (his : zhist δ μ τ) (hN : zn τ 512 < 512) (hS : va_S (zLA N) H0 H locs) (hl : lv_has ls 9 [(5, .int i), (4, .ref (N + 379)), (3, .ref (N + 378)), (2, .ref (zxm N 30 0)), (1, .ref N), (0, .ref b)]) (hcs : cells + 2 ≤ 603072 ∧ slots + 12 ≤ 7223402) (kk : zlK p l e s m args below meth c Q D cy N b i H0 (zn τ 512 + 1) (cells + 2) (slots + 12)) : W p l e room_1 s m args below meth c H locs cells slots Q (F0 m 1235 ls []) := by
  obtain ⟨X, hml, hK, hE, hNc, hX, hbH, hbN, hl0⟩ := id C
  obtain ⟨hx, hb, -, -⟩ := id X
  have hbA : ¬ zLA N b := fun z => absurd hbN (Nat.not_lt.mpr z)
  have hV := sim.V mod
  have hyV := mod.V
  obtain ⟨eF, eP⟩ := rd_grounds sim mod (xs (i + 1).toNatClampNeg)
  obtain ⟨e838, sim1, mod1, his1⟩ := rd_fin eF sim mod his
  refine lv_aload_n hx hb dL_law_1235 rfl (lv_at hl 4 rfl) ?_
  refine lv_aload_n hx hb dL_law_1236 rfl (lv_at hl 5 rfl) ?_
  refine lv_iload hx hb dL_law_1237 (lv_at hl 0 rfl) ?_
  refine lv_iconst (v := 1) hx hb dL_law_1239 (by decide) ?_
  refine lv_iadd hx hb dL_law_1240 ?_
  refine va_sld hx hb hX hbH hbA hS (hin _ (by decide)) dL_law_1241 ?_
  refine lv_aload_n hx hb dL_law_1242 rfl (lv_at hl 2 rfl) ?_
  refine zlW (As := [.ref N, .int (xs (i + 1).toNatClampNeg), .ref (N + 378)]) (rest := []) X hml hK hE hNc hL (ctL_grounds l hl0 D cy rf N (zxb N 0 0) (zxa N) σ (zxd N) δ (N + 378) w zu_ob (xs (i + 1).toNatClampNeg) hV) zmL_grounds (by decide) m_920 ⟨Nat.le_of_ble_eq_true rfl, Nat.le_of_ble_eq_true rfl⟩ ⟨by show _ ≤ 603072; omega, by show _ ≤ 7223402; omega⟩ rfl hl.1 rfl (Nat.le_of_ble_eq_true rfl) dL_law_1243 hS (fun H locs hL hS => ?_)
  refine lv_istore (lv' := [(6, .int (zkc [1] (k_atF σ (xs (i + 1).toNatClampNeg)))), (5, .int i), (4, .ref (N + 379)), (3, .ref (N + 378)), (2, .ref (zxm N 30 0)), (1, .ref N), (0, .ref b)]) hx hb dL_law_1246 hl (by decide) rfl (fun ls hl => ?_)
  refine lv_aload_n hx hb dL_law_1248 rfl (lv_at hl 4 rfl) ?_
  refine lv_aload_n hx hb dL_law_1249 rfl (lv_at hl 6 rfl) ?_
  refine lv_iload hx hb dL_law_1250 (lv_at hl 1 rfl) ?_
  refine lv_iconst (v := 1) hx hb dL_law_1252 (by decide) ?_
  refine lv_iadd hx hb dL_law_1253 ?_
  refine va_sld hx hb hX hbH hbA hS (hin _ (by decide)) dL_law_1254 ?_
  refine zlM (As := [.int (xs (i + 1).toNatClampNeg)]) (rest := []) X hml hK hL (ctX10_grounds l D cy (zxm N) μ zu_jm (xs (i + 1).toNatClampNeg) hyV) zmX10_grounds (by decide) m_1354 ⟨Nat.le_of_ble_eq_true rfl, Nat.le_of_ble_eq_true rfl⟩ ⟨by show _ ≤ 603072; omega, by show _ ≤ 7223402; omega⟩ rfl hl.1 rfl (Nat.le_of_ble_eq_true rfl) dL_law_1255 hS (fun H locs hL hS => ?_)
  refine lv_istore (lv' := [(7, .int (r_X10_grounds μ (xs (i + 1).toNatClampNeg))), (6, .int (zkc [1] (k_atF σ (xs (i + 1).toNatClampNeg)))), (5, .int i), (4, .ref (N + 379)), (3, .ref (N + 378)), (2, .ref (zxm N 30 0)), (1, .ref N), (0, .ref b)]) hx hb dL_law_1258 hl (by decide) rfl (fun ls hl => ?_)
  refine lv_aload_n hx hb dL_law_1260 rfl (lv_at hl 5 rfl) ?_
  refine zlT (rest := []) X hml hK hL m_1251 ⟨Nat.le_of_ble_eq_true rfl, Nat.le_of_ble_eq_true rfl⟩ ⟨by show _ ≤ 603072; omega, by show _ ≤ 7223402; omega⟩ hl.1 (Nat.le_of_ble_eq_true rfl) dL_law_1261 ?_
  refine lv_iload hx hb dL_law_1264 (lv_at hl 1 rfl) ?_
  refine lv_icmp_eq (tgt := 1271) hx hb dL_law_1266 (by decide) (fun _ => ?_) (fun z => absurd e838 z)
  refine lv_iload hx hb dL_law_1271 (lv_at hl 1 rfl) ?_
  refine lv_if_ne (tgt := 1288) hx hb dL_law_1273 (by decide) (fun _ => ?_) (fun z => ?_)
  · refine lv_goto (tgt := 2283) hx hb dL_law_1288 (by decide) ?_
    exact kk _ _ _ _ _ _ _ _ _ _ _ _ hL sim1 mod1 his1 (Nat.le_succ _) hS (lv_sub hl [2, 3, 4, 5, 6, 7] rfl) (by omega) (by omega)
  · have h0 := zkc_0 (by decide) z
    have hP := eP h0
    refine lv_aload_n hx hb dL_law_1276 rfl (lv_at hl 4 rfl) ?_
    refine lv_iconst (v := 0) hx hb dL_law_1277 (by decide) ?_
    refine zlO X hK hL dL_law_1278 ?_
    refine lv_iload hx hb dL_law_1279 (lv_at hl 0 rfl) ?_
    refine lv_i2l hx hb dL_law_1281 rfl ?_
    refine W.lcmp hx hb dL_law_1282 ?_
    refine lv_if_eq (tgt := 1288) hx hb dL_law_1283 (by decide) (fun _ => ?_) (fun z => absurd ((lg_cmp_eq _ _).mpr ((if_pos h0).trans (congrArg Int32.toInt64 hP.symm))) z)
    refine lv_goto (tgt := 2283) hx hb dL_law_1288 (by decide) ?_
    exact kk _ _ _ _ _ _ _ _ _ _ _ _ hL sim1 mod1 his1 (Nat.le_succ _) hS (lv_sub hl [2, 3, 4, 5, 6, 7] rfl) (by omega) (by omega)
set_option maxRecDepth 100000 in
set_option maxHeartbeats 4000000 in
theorem zcs_18 (C : zlC p l s m c args D cy rf N b L xs H0) (hin : ∀ j : Int32, j = 1 ∨ j = 2 ∨ j = 3 ∨ j = 4 → vp_in (i + j) L) (hL : zLH D cy N σ ρ δ μ w v H) (sim : zsim σ μ τ) (mod : ymod μ τ) (his : zhist δ μ τ) (hN : zn τ 512 < 512) (hS : va_S (zLA N) H0 H locs) (hl : lv_has ls 9 [(5, .int i), (4, .ref (N + 379)), (3, .ref (N + 378)), (2, .ref (zxm N 30 0)), (1, .ref N), (0, .ref b)]) (hcs : cells + 2 ≤ 603072 ∧ slots + 12 ≤ 7223402) (kk : zlK p l e s m args below meth c Q D cy N b i H0 (zn τ 512 + 1) (cells + 2) (slots + 12)) : W p l e room_1 s m args below meth c H locs cells slots Q (F0 m 1359 ls []) := by
  obtain ⟨X, hml, hK, hE, hNc, hX, hbH, hbN, hl0⟩ := id C
  obtain ⟨hx, hb, -, -⟩ := id X
  have hbA : ¬ zLA N b := fun z => absurd hbN (Nat.not_lt.mpr z)
  have hV := sim.V mod
  have hyV := mod.V
  have hfull := zl_full his hN
  by_cases q2 : xs (i + 2).toNatClampNeg = 0
  · obtain ⟨e838, eP, τ1, ht1, sim1, mod1, his1⟩ := act_post (za_17 mod hN (xs (i + 1).toNatClampNeg) false) sim mod his hN
    refine lv_aload_n hx hb dL_law_1359 rfl (lv_at hl 4 rfl) ?_
    refine lv_aload_n hx hb dL_law_1360 rfl (lv_at hl 5 rfl) ?_
    refine lv_iload hx hb dL_law_1361 (lv_at hl 0 rfl) ?_
    refine lv_iconst (v := 1) hx hb dL_law_1363 (by decide) ?_
    refine lv_iadd hx hb dL_law_1364 ?_
    refine va_sld hx hb hX hbH hbA hS (hin _ (by decide)) dL_law_1365 ?_
    refine lv_aload_n hx hb dL_law_1366 rfl (lv_at hl 5 rfl) ?_
    refine lv_iload hx hb dL_law_1367 (lv_at hl 0 rfl) ?_
    refine lv_iconst (v := 2) hx hb dL_law_1369 (by decide) ?_
    refine lv_iadd hx hb dL_law_1370 ?_
    refine va_sld hx hb hX hbH hbA hS (hin _ (by decide)) dL_law_1371 ?_
    refine lv_if_eq (tgt := 1379) hx hb dL_law_1372 (by decide) (fun _ => ?_) (fun z => absurd q2 z)
    refine lv_iconst (v := 0) hx hb dL_law_1379 (by decide) ?_
    refine lv_aload_n hx hb dL_law_1380 rfl (lv_at hl 2 rfl) ?_
    refine zlW (As := [.ref N, .int (xs (i + 1).toNatClampNeg), .int 0, .ref (N + 378)]) (rest := []) X hml hK hE hNc hL (ctL_drop l hl0 D cy rf N (zxb N 0 0) (zxa N) σ (zxd N) δ zu_J (N + 378) w zu_ob (xs (i + 1).toNatClampNeg) false hV his.1 hfull) zmL_drop (by decide) m_940 ⟨Nat.le_of_ble_eq_true rfl, Nat.le_of_ble_eq_true rfl⟩ ⟨by show _ ≤ 603072; omega, by show _ ≤ 7223402; omega⟩ rfl hl.1 rfl (Nat.le_of_ble_eq_true rfl) dL_law_1381 hS (fun H locs hL hS => ?_)
    refine lv_istore (lv' := [(6, .int (zkc [1, 3] (k_ref σ (nI 17) (xs (i + 1).toNatClampNeg) (bI false) 0 0))), (5, .int i), (4, .ref (N + 379)), (3, .ref (N + 378)), (2, .ref (zxm N 30 0)), (1, .ref N), (0, .ref b)]) hx hb dL_law_1384 hl (by decide) rfl (fun ls hl => ?_)
    refine lv_aload_n hx hb dL_law_1386 rfl (lv_at hl 4 rfl) ?_
    refine lv_aload_n hx hb dL_law_1387 rfl (lv_at hl 6 rfl) ?_
    refine lv_iload hx hb dL_law_1388 (lv_at hl 1 rfl) ?_
    refine lv_iconst (v := 1) hx hb dL_law_1390 (by decide) ?_
    refine lv_iadd hx hb dL_law_1391 ?_
    refine va_sld hx hb hX hbH hbA hS (hin _ (by decide)) dL_law_1392 ?_
    refine lv_aload_n hx hb dL_law_1393 rfl (lv_at hl 6 rfl) ?_
    refine lv_iload hx hb dL_law_1394 (lv_at hl 1 rfl) ?_
    refine lv_iconst (v := 2) hx hb dL_law_1396 (by decide) ?_
    refine lv_iadd hx hb dL_law_1397 ?_
    refine va_sld hx hb hX hbH hbA hS (hin _ (by decide)) dL_law_1398 ?_
    refine lv_if_eq (tgt := 1406) hx hb dL_law_1399 (by decide) (fun _ => ?_) (fun z => absurd q2 z)
    refine lv_iconst (v := 0) hx hb dL_law_1406 (by decide) ?_
    refine zlM (As := [.int (xs (i + 1).toNatClampNeg), .int 0]) (rest := []) X hml hK hL (ctX10_drop l D cy (zxm N) μ zu_jm (xs (i + 1).toNatClampNeg) false hyV) zmX10_drop (by decide) m_1378 ⟨Nat.le_of_ble_eq_true rfl, Nat.le_of_ble_eq_true rfl⟩ ⟨by show _ ≤ 603072; omega, by show _ ≤ 7223402; omega⟩ rfl hl.1 rfl (Nat.le_of_ble_eq_true rfl) dL_law_1407 hS (fun H locs hL hS => ?_)
    refine lv_istore (lv' := [(7, .int (r_X10_drop μ (xs (i + 1).toNatClampNeg) false)), (6, .int (zkc [1, 3] (k_ref σ (nI 17) (xs (i + 1).toNatClampNeg) (bI false) 0 0))), (5, .int i), (4, .ref (N + 379)), (3, .ref (N + 378)), (2, .ref (zxm N 30 0)), (1, .ref N), (0, .ref b)]) hx hb dL_law_1410 hl (by decide) rfl (fun ls hl => ?_)
    refine lv_aload_n hx hb dL_law_1412 rfl (lv_at hl 5 rfl) ?_
    refine zlT (rest := []) X hml hK hL m_1251 ⟨Nat.le_of_ble_eq_true rfl, Nat.le_of_ble_eq_true rfl⟩ ⟨by show _ ≤ 603072; omega, by show _ ≤ 7223402; omega⟩ hl.1 (Nat.le_of_ble_eq_true rfl) dL_law_1413 ?_
    refine lv_iload hx hb dL_law_1416 (lv_at hl 1 rfl) ?_
    refine lv_icmp_eq (tgt := 1423) hx hb dL_law_1418 (by decide) (fun _ => ?_) (fun z => absurd e838 z)
    refine lv_iload hx hb dL_law_1423 (lv_at hl 1 rfl) ?_
    refine lv_if_ne (tgt := 1440) hx hb dL_law_1425 (by decide) (fun _ => ?_) (fun z => ?_)
    · refine lv_goto (tgt := 2283) hx hb dL_law_1440 (by decide) ?_
      exact kk _ _ _ _ _ _ _ _ _ _ _ _ hL sim1 mod1 his1 ht1 hS (lv_sub hl [2, 3, 4, 5, 6, 7] rfl) (by omega) (by omega)
    · have h0 := zkc_0 (by decide) z
      have hP := eP h0
      refine lv_aload_n hx hb dL_law_1428 rfl (lv_at hl 4 rfl) ?_
      refine lv_iconst (v := 0) hx hb dL_law_1429 (by decide) ?_
      refine zlO X hK hL dL_law_1430 ?_
      refine lv_iload hx hb dL_law_1431 (lv_at hl 0 rfl) ?_
      refine lv_i2l hx hb dL_law_1433 rfl ?_
      refine W.lcmp hx hb dL_law_1434 ?_
      refine lv_if_eq (tgt := 1440) hx hb dL_law_1435 (by decide) (fun _ => ?_) (fun z => absurd ((lg_cmp_eq _ _).mpr ((if_pos h0).trans (congrArg Int32.toInt64 hP.symm))) z)
      refine lv_goto (tgt := 2283) hx hb dL_law_1440 (by decide) ?_
      exact kk _ _ _ _ _ _ _ _ _ _ _ _ hL sim1 mod1 his1 ht1 hS (lv_sub hl [2, 3, 4, 5, 6, 7] rfl) (by omega) (by omega)
  · obtain ⟨e838, eP, τ1, ht1, sim1, mod1, his1⟩ := act_post (za_17 mod hN (xs (i + 1).toNatClampNeg) true) sim mod his hN
    refine lv_aload_n hx hb dL_law_1359 rfl (lv_at hl 4 rfl) ?_
    refine lv_aload_n hx hb dL_law_1360 rfl (lv_at hl 5 rfl) ?_
    refine lv_iload hx hb dL_law_1361 (lv_at hl 0 rfl) ?_
    refine lv_iconst (v := 1) hx hb dL_law_1363 (by decide) ?_
    refine lv_iadd hx hb dL_law_1364 ?_
    refine va_sld hx hb hX hbH hbA hS (hin _ (by decide)) dL_law_1365 ?_
    refine lv_aload_n hx hb dL_law_1366 rfl (lv_at hl 5 rfl) ?_
    refine lv_iload hx hb dL_law_1367 (lv_at hl 0 rfl) ?_
    refine lv_iconst (v := 2) hx hb dL_law_1369 (by decide) ?_
    refine lv_iadd hx hb dL_law_1370 ?_
    refine va_sld hx hb hX hbH hbA hS (hin _ (by decide)) dL_law_1371 ?_
    refine lv_if_eq (tgt := 1379) hx hb dL_law_1372 (by decide) (fun z => absurd z q2) (fun _ => ?_)
    refine lv_iconst (v := 1) hx hb dL_law_1375 (by decide) ?_
    refine lv_goto (tgt := 1380) hx hb dL_law_1376 (by decide) ?_
    refine lv_aload_n hx hb dL_law_1380 rfl (lv_at hl 2 rfl) ?_
    refine zlW (As := [.ref N, .int (xs (i + 1).toNatClampNeg), .int 1, .ref (N + 378)]) (rest := []) X hml hK hE hNc hL (ctL_drop l hl0 D cy rf N (zxb N 0 0) (zxa N) σ (zxd N) δ zu_J (N + 378) w zu_ob (xs (i + 1).toNatClampNeg) true hV his.1 hfull) zmL_drop (by decide) m_940 ⟨Nat.le_of_ble_eq_true rfl, Nat.le_of_ble_eq_true rfl⟩ ⟨by show _ ≤ 603072; omega, by show _ ≤ 7223402; omega⟩ rfl hl.1 rfl (Nat.le_of_ble_eq_true rfl) dL_law_1381 hS (fun H locs hL hS => ?_)
    refine lv_istore (lv' := [(6, .int (zkc [1, 3] (k_ref σ (nI 17) (xs (i + 1).toNatClampNeg) (bI true) 0 0))), (5, .int i), (4, .ref (N + 379)), (3, .ref (N + 378)), (2, .ref (zxm N 30 0)), (1, .ref N), (0, .ref b)]) hx hb dL_law_1384 hl (by decide) rfl (fun ls hl => ?_)
    refine lv_aload_n hx hb dL_law_1386 rfl (lv_at hl 4 rfl) ?_
    refine lv_aload_n hx hb dL_law_1387 rfl (lv_at hl 6 rfl) ?_
    refine lv_iload hx hb dL_law_1388 (lv_at hl 1 rfl) ?_
    refine lv_iconst (v := 1) hx hb dL_law_1390 (by decide) ?_
    refine lv_iadd hx hb dL_law_1391 ?_
    refine va_sld hx hb hX hbH hbA hS (hin _ (by decide)) dL_law_1392 ?_
    refine lv_aload_n hx hb dL_law_1393 rfl (lv_at hl 6 rfl) ?_
    refine lv_iload hx hb dL_law_1394 (lv_at hl 1 rfl) ?_
    refine lv_iconst (v := 2) hx hb dL_law_1396 (by decide) ?_
    refine lv_iadd hx hb dL_law_1397 ?_
    refine va_sld hx hb hX hbH hbA hS (hin _ (by decide)) dL_law_1398 ?_
    refine lv_if_eq (tgt := 1406) hx hb dL_law_1399 (by decide) (fun z => absurd z q2) (fun _ => ?_)
    refine lv_iconst (v := 1) hx hb dL_law_1402 (by decide) ?_
    refine lv_goto (tgt := 1407) hx hb dL_law_1403 (by decide) ?_
    refine zlM (As := [.int (xs (i + 1).toNatClampNeg), .int 1]) (rest := []) X hml hK hL (ctX10_drop l D cy (zxm N) μ zu_jm (xs (i + 1).toNatClampNeg) true hyV) zmX10_drop (by decide) m_1378 ⟨Nat.le_of_ble_eq_true rfl, Nat.le_of_ble_eq_true rfl⟩ ⟨by show _ ≤ 603072; omega, by show _ ≤ 7223402; omega⟩ rfl hl.1 rfl (Nat.le_of_ble_eq_true rfl) dL_law_1407 hS (fun H locs hL hS => ?_)
    refine lv_istore (lv' := [(7, .int (r_X10_drop μ (xs (i + 1).toNatClampNeg) true)), (6, .int (zkc [1, 3] (k_ref σ (nI 17) (xs (i + 1).toNatClampNeg) (bI true) 0 0))), (5, .int i), (4, .ref (N + 379)), (3, .ref (N + 378)), (2, .ref (zxm N 30 0)), (1, .ref N), (0, .ref b)]) hx hb dL_law_1410 hl (by decide) rfl (fun ls hl => ?_)
    refine lv_aload_n hx hb dL_law_1412 rfl (lv_at hl 5 rfl) ?_
    refine zlT (rest := []) X hml hK hL m_1251 ⟨Nat.le_of_ble_eq_true rfl, Nat.le_of_ble_eq_true rfl⟩ ⟨by show _ ≤ 603072; omega, by show _ ≤ 7223402; omega⟩ hl.1 (Nat.le_of_ble_eq_true rfl) dL_law_1413 ?_
    refine lv_iload hx hb dL_law_1416 (lv_at hl 1 rfl) ?_
    refine lv_icmp_eq (tgt := 1423) hx hb dL_law_1418 (by decide) (fun _ => ?_) (fun z => absurd e838 z)
    refine lv_iload hx hb dL_law_1423 (lv_at hl 1 rfl) ?_
    refine lv_if_ne (tgt := 1440) hx hb dL_law_1425 (by decide) (fun _ => ?_) (fun z => ?_)
    · refine lv_goto (tgt := 2283) hx hb dL_law_1440 (by decide) ?_
      exact kk _ _ _ _ _ _ _ _ _ _ _ _ hL sim1 mod1 his1 ht1 hS (lv_sub hl [2, 3, 4, 5, 6, 7] rfl) (by omega) (by omega)
    · have h0 := zkc_0 (by decide) z
      have hP := eP h0
      refine lv_aload_n hx hb dL_law_1428 rfl (lv_at hl 4 rfl) ?_
      refine lv_iconst (v := 0) hx hb dL_law_1429 (by decide) ?_
      refine zlO X hK hL dL_law_1430 ?_
      refine lv_iload hx hb dL_law_1431 (lv_at hl 0 rfl) ?_
      refine lv_i2l hx hb dL_law_1433 rfl ?_
      refine W.lcmp hx hb dL_law_1434 ?_
      refine lv_if_eq (tgt := 1440) hx hb dL_law_1435 (by decide) (fun _ => ?_) (fun z => absurd ((lg_cmp_eq _ _).mpr ((if_pos h0).trans (congrArg Int32.toInt64 hP.symm))) z)
      refine lv_goto (tgt := 2283) hx hb dL_law_1440 (by decide) ?_
      exact kk _ _ _ _ _ _ _ _ _ _ _ _ hL sim1 mod1 his1 ht1 hS (lv_sub hl [2, 3, 4, 5, 6, 7] rfl) (by omega) (by omega)
set_option maxRecDepth 100000 in
set_option maxHeartbeats 4000000 in
theorem zcs_20 (C : zlC p l s m c args D cy rf N b L xs H0) (hin : ∀ j : Int32, j = 1 ∨ j = 2 ∨ j = 3 ∨ j = 4 → vp_in (i + j) L) (hL : zLH D cy N σ ρ δ μ w v H) (sim : zsim σ μ τ) (mod : ymod μ τ) (his : zhist δ μ τ) (hN : zn τ 512 < 512) (hS : va_S (zLA N) H0 H locs) (hl : lv_has ls 9 [(5, .int i), (4, .ref (N + 379)), (3, .ref (N + 378)), (2, .ref (zxm N 30 0)), (1, .ref N), (0, .ref b)]) (hcs : cells + 2 ≤ 603072 ∧ slots + 12 ≤ 7223402) (kk : zlK p l e s m args below meth c Q D cy N b i H0 (zn τ 512 + 1) (cells + 2) (slots + 12)) : W p l e room_1 s m args below meth c H locs cells slots Q (F0 m 1523 ls []) := by
  obtain ⟨X, hml, hK, hE, hNc, hX, hbH, hbN, hl0⟩ := id C
  obtain ⟨hx, hb, -, -⟩ := id X
  have hbA : ¬ zLA N b := fun z => absurd hbN (Nat.not_lt.mpr z)
  have hV := sim.V mod
  have hyV := mod.V
  have hfull := zl_full his hN
  by_cases q2 : xs (i + 2).toNatClampNeg = 0
  · by_cases q3 : xs (i + 3).toNatClampNeg = 0
    · obtain ⟨e838, eP, τ1, ht1, sim1, mod1, his1⟩ := act_post (za_19 mod hN (xs (i + 1).toNatClampNeg) false false) sim mod his hN
      refine lv_aload_n hx hb dL_law_1523 rfl (lv_at hl 4 rfl) ?_
      refine lv_aload_n hx hb dL_law_1524 rfl (lv_at hl 5 rfl) ?_
      refine lv_iload hx hb dL_law_1525 (lv_at hl 0 rfl) ?_
      refine lv_iconst (v := 1) hx hb dL_law_1527 (by decide) ?_
      refine lv_iadd hx hb dL_law_1528 ?_
      refine va_sld hx hb hX hbH hbA hS (hin _ (by decide)) dL_law_1529 ?_
      refine lv_aload_n hx hb dL_law_1530 rfl (lv_at hl 5 rfl) ?_
      refine lv_iload hx hb dL_law_1531 (lv_at hl 0 rfl) ?_
      refine lv_iconst (v := 2) hx hb dL_law_1533 (by decide) ?_
      refine lv_iadd hx hb dL_law_1534 ?_
      refine va_sld hx hb hX hbH hbA hS (hin _ (by decide)) dL_law_1535 ?_
      refine lv_if_eq (tgt := 1543) hx hb dL_law_1536 (by decide) (fun _ => ?_) (fun z => absurd q2 z)
      refine lv_iconst (v := 0) hx hb dL_law_1543 (by decide) ?_
      refine lv_aload_n hx hb dL_law_1544 rfl (lv_at hl 5 rfl) ?_
      refine lv_iload hx hb dL_law_1545 (lv_at hl 0 rfl) ?_
      refine lv_iconst (v := 3) hx hb dL_law_1547 (by decide) ?_
      refine lv_iadd hx hb dL_law_1548 ?_
      refine va_sld hx hb hX hbH hbA hS (hin _ (by decide)) dL_law_1549 ?_
      refine lv_if_eq (tgt := 1557) hx hb dL_law_1550 (by decide) (fun _ => ?_) (fun z => absurd q3 z)
      refine lv_iconst (v := 0) hx hb dL_law_1557 (by decide) ?_
      refine lv_aload_n hx hb dL_law_1558 rfl (lv_at hl 2 rfl) ?_
      refine zlW (As := [.ref N, .int (xs (i + 1).toNatClampNeg), .int 0, .int 0, .ref (N + 378)]) (rest := []) X hml hK hE hNc hL (ctL_back l hl0 D cy rf N (zxb N 0 0) (zxa N) σ (zxd N) δ zu_J (N + 378) w zu_ob (xs (i + 1).toNatClampNeg) false false hV his.1 hfull) zmL_back (by decide) m_954 ⟨Nat.le_of_ble_eq_true rfl, Nat.le_of_ble_eq_true rfl⟩ ⟨by show _ ≤ 603072; omega, by show _ ≤ 7223402; omega⟩ rfl hl.1 rfl (Nat.le_of_ble_eq_true rfl) dL_law_1559 hS (fun H locs hL hS => ?_)
      refine lv_istore (lv' := [(6, .int (zkc [1, 3] (k_ref σ (nI 19) (xs (i + 1).toNatClampNeg) (bI false) (bI false) 0))), (5, .int i), (4, .ref (N + 379)), (3, .ref (N + 378)), (2, .ref (zxm N 30 0)), (1, .ref N), (0, .ref b)]) hx hb dL_law_1562 hl (by decide) rfl (fun ls hl => ?_)
      refine lv_aload_n hx hb dL_law_1564 rfl (lv_at hl 4 rfl) ?_
      refine lv_aload_n hx hb dL_law_1565 rfl (lv_at hl 6 rfl) ?_
      refine lv_iload hx hb dL_law_1566 (lv_at hl 1 rfl) ?_
      refine lv_iconst (v := 1) hx hb dL_law_1568 (by decide) ?_
      refine lv_iadd hx hb dL_law_1569 ?_
      refine va_sld hx hb hX hbH hbA hS (hin _ (by decide)) dL_law_1570 ?_
      refine lv_aload_n hx hb dL_law_1571 rfl (lv_at hl 6 rfl) ?_
      refine lv_iload hx hb dL_law_1572 (lv_at hl 1 rfl) ?_
      refine lv_iconst (v := 2) hx hb dL_law_1574 (by decide) ?_
      refine lv_iadd hx hb dL_law_1575 ?_
      refine va_sld hx hb hX hbH hbA hS (hin _ (by decide)) dL_law_1576 ?_
      refine lv_if_eq (tgt := 1584) hx hb dL_law_1577 (by decide) (fun _ => ?_) (fun z => absurd q2 z)
      refine lv_iconst (v := 0) hx hb dL_law_1584 (by decide) ?_
      refine lv_aload_n hx hb dL_law_1585 rfl (lv_at hl 6 rfl) ?_
      refine lv_iload hx hb dL_law_1586 (lv_at hl 1 rfl) ?_
      refine lv_iconst (v := 3) hx hb dL_law_1588 (by decide) ?_
      refine lv_iadd hx hb dL_law_1589 ?_
      refine va_sld hx hb hX hbH hbA hS (hin _ (by decide)) dL_law_1590 ?_
      refine lv_if_eq (tgt := 1598) hx hb dL_law_1591 (by decide) (fun _ => ?_) (fun z => absurd q3 z)
      refine lv_iconst (v := 0) hx hb dL_law_1598 (by decide) ?_
      refine zlM (As := [.int (xs (i + 1).toNatClampNeg), .int 0, .int 0]) (rest := []) X hml hK hL (ctX10_back l D cy (zxm N) μ zu_jm (xs (i + 1).toNatClampNeg) false false hyV) zmX10_back (by decide) m_1426 ⟨Nat.le_of_ble_eq_true rfl, Nat.le_of_ble_eq_true rfl⟩ ⟨by show _ ≤ 603072; omega, by show _ ≤ 7223402; omega⟩ rfl hl.1 rfl (Nat.le_of_ble_eq_true rfl) dL_law_1599 hS (fun H locs hL hS => ?_)
      refine lv_istore (lv' := [(7, .int (r_X10_back μ (xs (i + 1).toNatClampNeg) false false)), (6, .int (zkc [1, 3] (k_ref σ (nI 19) (xs (i + 1).toNatClampNeg) (bI false) (bI false) 0))), (5, .int i), (4, .ref (N + 379)), (3, .ref (N + 378)), (2, .ref (zxm N 30 0)), (1, .ref N), (0, .ref b)]) hx hb dL_law_1602 hl (by decide) rfl (fun ls hl => ?_)
      refine lv_aload_n hx hb dL_law_1604 rfl (lv_at hl 5 rfl) ?_
      refine zlT (rest := []) X hml hK hL m_1251 ⟨Nat.le_of_ble_eq_true rfl, Nat.le_of_ble_eq_true rfl⟩ ⟨by show _ ≤ 603072; omega, by show _ ≤ 7223402; omega⟩ hl.1 (Nat.le_of_ble_eq_true rfl) dL_law_1605 ?_
      refine lv_iload hx hb dL_law_1608 (lv_at hl 1 rfl) ?_
      refine lv_icmp_eq (tgt := 1615) hx hb dL_law_1610 (by decide) (fun _ => ?_) (fun z => absurd e838 z)
      refine lv_iload hx hb dL_law_1615 (lv_at hl 1 rfl) ?_
      refine lv_if_ne (tgt := 1632) hx hb dL_law_1617 (by decide) (fun _ => ?_) (fun z => ?_)
      · refine lv_goto (tgt := 2283) hx hb dL_law_1632 (by decide) ?_
        exact kk _ _ _ _ _ _ _ _ _ _ _ _ hL sim1 mod1 his1 ht1 hS (lv_sub hl [2, 3, 4, 5, 6, 7] rfl) (by omega) (by omega)
      · have h0 := zkc_0 (by decide) z
        have hP := eP h0
        refine lv_aload_n hx hb dL_law_1620 rfl (lv_at hl 4 rfl) ?_
        refine lv_iconst (v := 0) hx hb dL_law_1621 (by decide) ?_
        refine zlO X hK hL dL_law_1622 ?_
        refine lv_iload hx hb dL_law_1623 (lv_at hl 0 rfl) ?_
        refine lv_i2l hx hb dL_law_1625 rfl ?_
        refine W.lcmp hx hb dL_law_1626 ?_
        refine lv_if_eq (tgt := 1632) hx hb dL_law_1627 (by decide) (fun _ => ?_) (fun z => absurd ((lg_cmp_eq _ _).mpr ((if_pos h0).trans (congrArg Int32.toInt64 hP.symm))) z)
        refine lv_goto (tgt := 2283) hx hb dL_law_1632 (by decide) ?_
        exact kk _ _ _ _ _ _ _ _ _ _ _ _ hL sim1 mod1 his1 ht1 hS (lv_sub hl [2, 3, 4, 5, 6, 7] rfl) (by omega) (by omega)
    · obtain ⟨e838, eP, τ1, ht1, sim1, mod1, his1⟩ := act_post (za_19 mod hN (xs (i + 1).toNatClampNeg) false true) sim mod his hN
      refine lv_aload_n hx hb dL_law_1523 rfl (lv_at hl 4 rfl) ?_
      refine lv_aload_n hx hb dL_law_1524 rfl (lv_at hl 5 rfl) ?_
      refine lv_iload hx hb dL_law_1525 (lv_at hl 0 rfl) ?_
      refine lv_iconst (v := 1) hx hb dL_law_1527 (by decide) ?_
      refine lv_iadd hx hb dL_law_1528 ?_
      refine va_sld hx hb hX hbH hbA hS (hin _ (by decide)) dL_law_1529 ?_
      refine lv_aload_n hx hb dL_law_1530 rfl (lv_at hl 5 rfl) ?_
      refine lv_iload hx hb dL_law_1531 (lv_at hl 0 rfl) ?_
      refine lv_iconst (v := 2) hx hb dL_law_1533 (by decide) ?_
      refine lv_iadd hx hb dL_law_1534 ?_
      refine va_sld hx hb hX hbH hbA hS (hin _ (by decide)) dL_law_1535 ?_
      refine lv_if_eq (tgt := 1543) hx hb dL_law_1536 (by decide) (fun _ => ?_) (fun z => absurd q2 z)
      refine lv_iconst (v := 0) hx hb dL_law_1543 (by decide) ?_
      refine lv_aload_n hx hb dL_law_1544 rfl (lv_at hl 5 rfl) ?_
      refine lv_iload hx hb dL_law_1545 (lv_at hl 0 rfl) ?_
      refine lv_iconst (v := 3) hx hb dL_law_1547 (by decide) ?_
      refine lv_iadd hx hb dL_law_1548 ?_
      refine va_sld hx hb hX hbH hbA hS (hin _ (by decide)) dL_law_1549 ?_
      refine lv_if_eq (tgt := 1557) hx hb dL_law_1550 (by decide) (fun z => absurd z q3) (fun _ => ?_)
      refine lv_iconst (v := 1) hx hb dL_law_1553 (by decide) ?_
      refine lv_goto (tgt := 1558) hx hb dL_law_1554 (by decide) ?_
      refine lv_aload_n hx hb dL_law_1558 rfl (lv_at hl 2 rfl) ?_
      refine zlW (As := [.ref N, .int (xs (i + 1).toNatClampNeg), .int 0, .int 1, .ref (N + 378)]) (rest := []) X hml hK hE hNc hL (ctL_back l hl0 D cy rf N (zxb N 0 0) (zxa N) σ (zxd N) δ zu_J (N + 378) w zu_ob (xs (i + 1).toNatClampNeg) false true hV his.1 hfull) zmL_back (by decide) m_954 ⟨Nat.le_of_ble_eq_true rfl, Nat.le_of_ble_eq_true rfl⟩ ⟨by show _ ≤ 603072; omega, by show _ ≤ 7223402; omega⟩ rfl hl.1 rfl (Nat.le_of_ble_eq_true rfl) dL_law_1559 hS (fun H locs hL hS => ?_)
      refine lv_istore (lv' := [(6, .int (zkc [1, 3] (k_ref σ (nI 19) (xs (i + 1).toNatClampNeg) (bI false) (bI true) 0))), (5, .int i), (4, .ref (N + 379)), (3, .ref (N + 378)), (2, .ref (zxm N 30 0)), (1, .ref N), (0, .ref b)]) hx hb dL_law_1562 hl (by decide) rfl (fun ls hl => ?_)
      refine lv_aload_n hx hb dL_law_1564 rfl (lv_at hl 4 rfl) ?_
      refine lv_aload_n hx hb dL_law_1565 rfl (lv_at hl 6 rfl) ?_
      refine lv_iload hx hb dL_law_1566 (lv_at hl 1 rfl) ?_
      refine lv_iconst (v := 1) hx hb dL_law_1568 (by decide) ?_
      refine lv_iadd hx hb dL_law_1569 ?_
      refine va_sld hx hb hX hbH hbA hS (hin _ (by decide)) dL_law_1570 ?_
      refine lv_aload_n hx hb dL_law_1571 rfl (lv_at hl 6 rfl) ?_
      refine lv_iload hx hb dL_law_1572 (lv_at hl 1 rfl) ?_
      refine lv_iconst (v := 2) hx hb dL_law_1574 (by decide) ?_
      refine lv_iadd hx hb dL_law_1575 ?_
      refine va_sld hx hb hX hbH hbA hS (hin _ (by decide)) dL_law_1576 ?_
      refine lv_if_eq (tgt := 1584) hx hb dL_law_1577 (by decide) (fun _ => ?_) (fun z => absurd q2 z)
      refine lv_iconst (v := 0) hx hb dL_law_1584 (by decide) ?_
      refine lv_aload_n hx hb dL_law_1585 rfl (lv_at hl 6 rfl) ?_
      refine lv_iload hx hb dL_law_1586 (lv_at hl 1 rfl) ?_
      refine lv_iconst (v := 3) hx hb dL_law_1588 (by decide) ?_
      refine lv_iadd hx hb dL_law_1589 ?_
      refine va_sld hx hb hX hbH hbA hS (hin _ (by decide)) dL_law_1590 ?_
      refine lv_if_eq (tgt := 1598) hx hb dL_law_1591 (by decide) (fun z => absurd z q3) (fun _ => ?_)
      refine lv_iconst (v := 1) hx hb dL_law_1594 (by decide) ?_
      refine lv_goto (tgt := 1599) hx hb dL_law_1595 (by decide) ?_
      refine zlM (As := [.int (xs (i + 1).toNatClampNeg), .int 0, .int 1]) (rest := []) X hml hK hL (ctX10_back l D cy (zxm N) μ zu_jm (xs (i + 1).toNatClampNeg) false true hyV) zmX10_back (by decide) m_1426 ⟨Nat.le_of_ble_eq_true rfl, Nat.le_of_ble_eq_true rfl⟩ ⟨by show _ ≤ 603072; omega, by show _ ≤ 7223402; omega⟩ rfl hl.1 rfl (Nat.le_of_ble_eq_true rfl) dL_law_1599 hS (fun H locs hL hS => ?_)
      refine lv_istore (lv' := [(7, .int (r_X10_back μ (xs (i + 1).toNatClampNeg) false true)), (6, .int (zkc [1, 3] (k_ref σ (nI 19) (xs (i + 1).toNatClampNeg) (bI false) (bI true) 0))), (5, .int i), (4, .ref (N + 379)), (3, .ref (N + 378)), (2, .ref (zxm N 30 0)), (1, .ref N), (0, .ref b)]) hx hb dL_law_1602 hl (by decide) rfl (fun ls hl => ?_)
      refine lv_aload_n hx hb dL_law_1604 rfl (lv_at hl 5 rfl) ?_
      refine zlT (rest := []) X hml hK hL m_1251 ⟨Nat.le_of_ble_eq_true rfl, Nat.le_of_ble_eq_true rfl⟩ ⟨by show _ ≤ 603072; omega, by show _ ≤ 7223402; omega⟩ hl.1 (Nat.le_of_ble_eq_true rfl) dL_law_1605 ?_
      refine lv_iload hx hb dL_law_1608 (lv_at hl 1 rfl) ?_
      refine lv_icmp_eq (tgt := 1615) hx hb dL_law_1610 (by decide) (fun _ => ?_) (fun z => absurd e838 z)
      refine lv_iload hx hb dL_law_1615 (lv_at hl 1 rfl) ?_
      refine lv_if_ne (tgt := 1632) hx hb dL_law_1617 (by decide) (fun _ => ?_) (fun z => ?_)
      · refine lv_goto (tgt := 2283) hx hb dL_law_1632 (by decide) ?_
        exact kk _ _ _ _ _ _ _ _ _ _ _ _ hL sim1 mod1 his1 ht1 hS (lv_sub hl [2, 3, 4, 5, 6, 7] rfl) (by omega) (by omega)
      · have h0 := zkc_0 (by decide) z
        have hP := eP h0
        refine lv_aload_n hx hb dL_law_1620 rfl (lv_at hl 4 rfl) ?_
        refine lv_iconst (v := 0) hx hb dL_law_1621 (by decide) ?_
        refine zlO X hK hL dL_law_1622 ?_
        refine lv_iload hx hb dL_law_1623 (lv_at hl 0 rfl) ?_
        refine lv_i2l hx hb dL_law_1625 rfl ?_
        refine W.lcmp hx hb dL_law_1626 ?_
        refine lv_if_eq (tgt := 1632) hx hb dL_law_1627 (by decide) (fun _ => ?_) (fun z => absurd ((lg_cmp_eq _ _).mpr ((if_pos h0).trans (congrArg Int32.toInt64 hP.symm))) z)
        refine lv_goto (tgt := 2283) hx hb dL_law_1632 (by decide) ?_
        exact kk _ _ _ _ _ _ _ _ _ _ _ _ hL sim1 mod1 his1 ht1 hS (lv_sub hl [2, 3, 4, 5, 6, 7] rfl) (by omega) (by omega)
  · by_cases q3 : xs (i + 3).toNatClampNeg = 0
    · obtain ⟨e838, eP, τ1, ht1, sim1, mod1, his1⟩ := act_post (za_19 mod hN (xs (i + 1).toNatClampNeg) true false) sim mod his hN
      refine lv_aload_n hx hb dL_law_1523 rfl (lv_at hl 4 rfl) ?_
      refine lv_aload_n hx hb dL_law_1524 rfl (lv_at hl 5 rfl) ?_
      refine lv_iload hx hb dL_law_1525 (lv_at hl 0 rfl) ?_
      refine lv_iconst (v := 1) hx hb dL_law_1527 (by decide) ?_
      refine lv_iadd hx hb dL_law_1528 ?_
      refine va_sld hx hb hX hbH hbA hS (hin _ (by decide)) dL_law_1529 ?_
      refine lv_aload_n hx hb dL_law_1530 rfl (lv_at hl 5 rfl) ?_
      refine lv_iload hx hb dL_law_1531 (lv_at hl 0 rfl) ?_
      refine lv_iconst (v := 2) hx hb dL_law_1533 (by decide) ?_
      refine lv_iadd hx hb dL_law_1534 ?_
      refine va_sld hx hb hX hbH hbA hS (hin _ (by decide)) dL_law_1535 ?_
      refine lv_if_eq (tgt := 1543) hx hb dL_law_1536 (by decide) (fun z => absurd z q2) (fun _ => ?_)
      refine lv_iconst (v := 1) hx hb dL_law_1539 (by decide) ?_
      refine lv_goto (tgt := 1544) hx hb dL_law_1540 (by decide) ?_
      refine lv_aload_n hx hb dL_law_1544 rfl (lv_at hl 5 rfl) ?_
      refine lv_iload hx hb dL_law_1545 (lv_at hl 0 rfl) ?_
      refine lv_iconst (v := 3) hx hb dL_law_1547 (by decide) ?_
      refine lv_iadd hx hb dL_law_1548 ?_
      refine va_sld hx hb hX hbH hbA hS (hin _ (by decide)) dL_law_1549 ?_
      refine lv_if_eq (tgt := 1557) hx hb dL_law_1550 (by decide) (fun _ => ?_) (fun z => absurd q3 z)
      refine lv_iconst (v := 0) hx hb dL_law_1557 (by decide) ?_
      refine lv_aload_n hx hb dL_law_1558 rfl (lv_at hl 2 rfl) ?_
      refine zlW (As := [.ref N, .int (xs (i + 1).toNatClampNeg), .int 1, .int 0, .ref (N + 378)]) (rest := []) X hml hK hE hNc hL (ctL_back l hl0 D cy rf N (zxb N 0 0) (zxa N) σ (zxd N) δ zu_J (N + 378) w zu_ob (xs (i + 1).toNatClampNeg) true false hV his.1 hfull) zmL_back (by decide) m_954 ⟨Nat.le_of_ble_eq_true rfl, Nat.le_of_ble_eq_true rfl⟩ ⟨by show _ ≤ 603072; omega, by show _ ≤ 7223402; omega⟩ rfl hl.1 rfl (Nat.le_of_ble_eq_true rfl) dL_law_1559 hS (fun H locs hL hS => ?_)
      refine lv_istore (lv' := [(6, .int (zkc [1, 3] (k_ref σ (nI 19) (xs (i + 1).toNatClampNeg) (bI true) (bI false) 0))), (5, .int i), (4, .ref (N + 379)), (3, .ref (N + 378)), (2, .ref (zxm N 30 0)), (1, .ref N), (0, .ref b)]) hx hb dL_law_1562 hl (by decide) rfl (fun ls hl => ?_)
      refine lv_aload_n hx hb dL_law_1564 rfl (lv_at hl 4 rfl) ?_
      refine lv_aload_n hx hb dL_law_1565 rfl (lv_at hl 6 rfl) ?_
      refine lv_iload hx hb dL_law_1566 (lv_at hl 1 rfl) ?_
      refine lv_iconst (v := 1) hx hb dL_law_1568 (by decide) ?_
      refine lv_iadd hx hb dL_law_1569 ?_
      refine va_sld hx hb hX hbH hbA hS (hin _ (by decide)) dL_law_1570 ?_
      refine lv_aload_n hx hb dL_law_1571 rfl (lv_at hl 6 rfl) ?_
      refine lv_iload hx hb dL_law_1572 (lv_at hl 1 rfl) ?_
      refine lv_iconst (v := 2) hx hb dL_law_1574 (by decide) ?_
      refine lv_iadd hx hb dL_law_1575 ?_
      refine va_sld hx hb hX hbH hbA hS (hin _ (by decide)) dL_law_1576 ?_
      refine lv_if_eq (tgt := 1584) hx hb dL_law_1577 (by decide) (fun z => absurd z q2) (fun _ => ?_)
      refine lv_iconst (v := 1) hx hb dL_law_1580 (by decide) ?_
      refine lv_goto (tgt := 1585) hx hb dL_law_1581 (by decide) ?_
      refine lv_aload_n hx hb dL_law_1585 rfl (lv_at hl 6 rfl) ?_
      refine lv_iload hx hb dL_law_1586 (lv_at hl 1 rfl) ?_
      refine lv_iconst (v := 3) hx hb dL_law_1588 (by decide) ?_
      refine lv_iadd hx hb dL_law_1589 ?_
      refine va_sld hx hb hX hbH hbA hS (hin _ (by decide)) dL_law_1590 ?_
      refine lv_if_eq (tgt := 1598) hx hb dL_law_1591 (by decide) (fun _ => ?_) (fun z => absurd q3 z)
      refine lv_iconst (v := 0) hx hb dL_law_1598 (by decide) ?_
      refine zlM (As := [.int (xs (i + 1).toNatClampNeg), .int 1, .int 0]) (rest := []) X hml hK hL (ctX10_back l D cy (zxm N) μ zu_jm (xs (i + 1).toNatClampNeg) true false hyV) zmX10_back (by decide) m_1426 ⟨Nat.le_of_ble_eq_true rfl, Nat.le_of_ble_eq_true rfl⟩ ⟨by show _ ≤ 603072; omega, by show _ ≤ 7223402; omega⟩ rfl hl.1 rfl (Nat.le_of_ble_eq_true rfl) dL_law_1599 hS (fun H locs hL hS => ?_)
      refine lv_istore (lv' := [(7, .int (r_X10_back μ (xs (i + 1).toNatClampNeg) true false)), (6, .int (zkc [1, 3] (k_ref σ (nI 19) (xs (i + 1).toNatClampNeg) (bI true) (bI false) 0))), (5, .int i), (4, .ref (N + 379)), (3, .ref (N + 378)), (2, .ref (zxm N 30 0)), (1, .ref N), (0, .ref b)]) hx hb dL_law_1602 hl (by decide) rfl (fun ls hl => ?_)
      refine lv_aload_n hx hb dL_law_1604 rfl (lv_at hl 5 rfl) ?_
      refine zlT (rest := []) X hml hK hL m_1251 ⟨Nat.le_of_ble_eq_true rfl, Nat.le_of_ble_eq_true rfl⟩ ⟨by show _ ≤ 603072; omega, by show _ ≤ 7223402; omega⟩ hl.1 (Nat.le_of_ble_eq_true rfl) dL_law_1605 ?_
      refine lv_iload hx hb dL_law_1608 (lv_at hl 1 rfl) ?_
      refine lv_icmp_eq (tgt := 1615) hx hb dL_law_1610 (by decide) (fun _ => ?_) (fun z => absurd e838 z)
      refine lv_iload hx hb dL_law_1615 (lv_at hl 1 rfl) ?_
      refine lv_if_ne (tgt := 1632) hx hb dL_law_1617 (by decide) (fun _ => ?_) (fun z => ?_)
      · refine lv_goto (tgt := 2283) hx hb dL_law_1632 (by decide) ?_
        exact kk _ _ _ _ _ _ _ _ _ _ _ _ hL sim1 mod1 his1 ht1 hS (lv_sub hl [2, 3, 4, 5, 6, 7] rfl) (by omega) (by omega)
      · have h0 := zkc_0 (by decide) z
        have hP := eP h0
        refine lv_aload_n hx hb dL_law_1620 rfl (lv_at hl 4 rfl) ?_
        refine lv_iconst (v := 0) hx hb dL_law_1621 (by decide) ?_
        refine zlO X hK hL dL_law_1622 ?_
        refine lv_iload hx hb dL_law_1623 (lv_at hl 0 rfl) ?_
        refine lv_i2l hx hb dL_law_1625 rfl ?_
        refine W.lcmp hx hb dL_law_1626 ?_
        refine lv_if_eq (tgt := 1632) hx hb dL_law_1627 (by decide) (fun _ => ?_) (fun z => absurd ((lg_cmp_eq _ _).mpr ((if_pos h0).trans (congrArg Int32.toInt64 hP.symm))) z)
        refine lv_goto (tgt := 2283) hx hb dL_law_1632 (by decide) ?_
        exact kk _ _ _ _ _ _ _ _ _ _ _ _ hL sim1 mod1 his1 ht1 hS (lv_sub hl [2, 3, 4, 5, 6, 7] rfl) (by omega) (by omega)
    · obtain ⟨e838, eP, τ1, ht1, sim1, mod1, his1⟩ := act_post (za_19 mod hN (xs (i + 1).toNatClampNeg) true true) sim mod his hN
      refine lv_aload_n hx hb dL_law_1523 rfl (lv_at hl 4 rfl) ?_
      refine lv_aload_n hx hb dL_law_1524 rfl (lv_at hl 5 rfl) ?_
      refine lv_iload hx hb dL_law_1525 (lv_at hl 0 rfl) ?_
      refine lv_iconst (v := 1) hx hb dL_law_1527 (by decide) ?_
      refine lv_iadd hx hb dL_law_1528 ?_
      refine va_sld hx hb hX hbH hbA hS (hin _ (by decide)) dL_law_1529 ?_
      refine lv_aload_n hx hb dL_law_1530 rfl (lv_at hl 5 rfl) ?_
      refine lv_iload hx hb dL_law_1531 (lv_at hl 0 rfl) ?_
      refine lv_iconst (v := 2) hx hb dL_law_1533 (by decide) ?_
      refine lv_iadd hx hb dL_law_1534 ?_
      refine va_sld hx hb hX hbH hbA hS (hin _ (by decide)) dL_law_1535 ?_
      refine lv_if_eq (tgt := 1543) hx hb dL_law_1536 (by decide) (fun z => absurd z q2) (fun _ => ?_)
      refine lv_iconst (v := 1) hx hb dL_law_1539 (by decide) ?_
      refine lv_goto (tgt := 1544) hx hb dL_law_1540 (by decide) ?_
      refine lv_aload_n hx hb dL_law_1544 rfl (lv_at hl 5 rfl) ?_
      refine lv_iload hx hb dL_law_1545 (lv_at hl 0 rfl) ?_
      refine lv_iconst (v := 3) hx hb dL_law_1547 (by decide) ?_
      refine lv_iadd hx hb dL_law_1548 ?_
      refine va_sld hx hb hX hbH hbA hS (hin _ (by decide)) dL_law_1549 ?_
      refine lv_if_eq (tgt := 1557) hx hb dL_law_1550 (by decide) (fun z => absurd z q3) (fun _ => ?_)
      refine lv_iconst (v := 1) hx hb dL_law_1553 (by decide) ?_
      refine lv_goto (tgt := 1558) hx hb dL_law_1554 (by decide) ?_
      refine lv_aload_n hx hb dL_law_1558 rfl (lv_at hl 2 rfl) ?_
      refine zlW (As := [.ref N, .int (xs (i + 1).toNatClampNeg), .int 1, .int 1, .ref (N + 378)]) (rest := []) X hml hK hE hNc hL (ctL_back l hl0 D cy rf N (zxb N 0 0) (zxa N) σ (zxd N) δ zu_J (N + 378) w zu_ob (xs (i + 1).toNatClampNeg) true true hV his.1 hfull) zmL_back (by decide) m_954 ⟨Nat.le_of_ble_eq_true rfl, Nat.le_of_ble_eq_true rfl⟩ ⟨by show _ ≤ 603072; omega, by show _ ≤ 7223402; omega⟩ rfl hl.1 rfl (Nat.le_of_ble_eq_true rfl) dL_law_1559 hS (fun H locs hL hS => ?_)
      refine lv_istore (lv' := [(6, .int (zkc [1, 3] (k_ref σ (nI 19) (xs (i + 1).toNatClampNeg) (bI true) (bI true) 0))), (5, .int i), (4, .ref (N + 379)), (3, .ref (N + 378)), (2, .ref (zxm N 30 0)), (1, .ref N), (0, .ref b)]) hx hb dL_law_1562 hl (by decide) rfl (fun ls hl => ?_)
      refine lv_aload_n hx hb dL_law_1564 rfl (lv_at hl 4 rfl) ?_
      refine lv_aload_n hx hb dL_law_1565 rfl (lv_at hl 6 rfl) ?_
      refine lv_iload hx hb dL_law_1566 (lv_at hl 1 rfl) ?_
      refine lv_iconst (v := 1) hx hb dL_law_1568 (by decide) ?_
      refine lv_iadd hx hb dL_law_1569 ?_
      refine va_sld hx hb hX hbH hbA hS (hin _ (by decide)) dL_law_1570 ?_
      refine lv_aload_n hx hb dL_law_1571 rfl (lv_at hl 6 rfl) ?_
      refine lv_iload hx hb dL_law_1572 (lv_at hl 1 rfl) ?_
      refine lv_iconst (v := 2) hx hb dL_law_1574 (by decide) ?_
      refine lv_iadd hx hb dL_law_1575 ?_
      refine va_sld hx hb hX hbH hbA hS (hin _ (by decide)) dL_law_1576 ?_
      refine lv_if_eq (tgt := 1584) hx hb dL_law_1577 (by decide) (fun z => absurd z q2) (fun _ => ?_)
      refine lv_iconst (v := 1) hx hb dL_law_1580 (by decide) ?_
      refine lv_goto (tgt := 1585) hx hb dL_law_1581 (by decide) ?_
      refine lv_aload_n hx hb dL_law_1585 rfl (lv_at hl 6 rfl) ?_
      refine lv_iload hx hb dL_law_1586 (lv_at hl 1 rfl) ?_
      refine lv_iconst (v := 3) hx hb dL_law_1588 (by decide) ?_
      refine lv_iadd hx hb dL_law_1589 ?_
      refine va_sld hx hb hX hbH hbA hS (hin _ (by decide)) dL_law_1590 ?_
      refine lv_if_eq (tgt := 1598) hx hb dL_law_1591 (by decide) (fun z => absurd z q3) (fun _ => ?_)
      refine lv_iconst (v := 1) hx hb dL_law_1594 (by decide) ?_
      refine lv_goto (tgt := 1599) hx hb dL_law_1595 (by decide) ?_
      refine zlM (As := [.int (xs (i + 1).toNatClampNeg), .int 1, .int 1]) (rest := []) X hml hK hL (ctX10_back l D cy (zxm N) μ zu_jm (xs (i + 1).toNatClampNeg) true true hyV) zmX10_back (by decide) m_1426 ⟨Nat.le_of_ble_eq_true rfl, Nat.le_of_ble_eq_true rfl⟩ ⟨by show _ ≤ 603072; omega, by show _ ≤ 7223402; omega⟩ rfl hl.1 rfl (Nat.le_of_ble_eq_true rfl) dL_law_1599 hS (fun H locs hL hS => ?_)
      refine lv_istore (lv' := [(7, .int (r_X10_back μ (xs (i + 1).toNatClampNeg) true true)), (6, .int (zkc [1, 3] (k_ref σ (nI 19) (xs (i + 1).toNatClampNeg) (bI true) (bI true) 0))), (5, .int i), (4, .ref (N + 379)), (3, .ref (N + 378)), (2, .ref (zxm N 30 0)), (1, .ref N), (0, .ref b)]) hx hb dL_law_1602 hl (by decide) rfl (fun ls hl => ?_)
      refine lv_aload_n hx hb dL_law_1604 rfl (lv_at hl 5 rfl) ?_
      refine zlT (rest := []) X hml hK hL m_1251 ⟨Nat.le_of_ble_eq_true rfl, Nat.le_of_ble_eq_true rfl⟩ ⟨by show _ ≤ 603072; omega, by show _ ≤ 7223402; omega⟩ hl.1 (Nat.le_of_ble_eq_true rfl) dL_law_1605 ?_
      refine lv_iload hx hb dL_law_1608 (lv_at hl 1 rfl) ?_
      refine lv_icmp_eq (tgt := 1615) hx hb dL_law_1610 (by decide) (fun _ => ?_) (fun z => absurd e838 z)
      refine lv_iload hx hb dL_law_1615 (lv_at hl 1 rfl) ?_
      refine lv_if_ne (tgt := 1632) hx hb dL_law_1617 (by decide) (fun _ => ?_) (fun z => ?_)
      · refine lv_goto (tgt := 2283) hx hb dL_law_1632 (by decide) ?_
        exact kk _ _ _ _ _ _ _ _ _ _ _ _ hL sim1 mod1 his1 ht1 hS (lv_sub hl [2, 3, 4, 5, 6, 7] rfl) (by omega) (by omega)
      · have h0 := zkc_0 (by decide) z
        have hP := eP h0
        refine lv_aload_n hx hb dL_law_1620 rfl (lv_at hl 4 rfl) ?_
        refine lv_iconst (v := 0) hx hb dL_law_1621 (by decide) ?_
        refine zlO X hK hL dL_law_1622 ?_
        refine lv_iload hx hb dL_law_1623 (lv_at hl 0 rfl) ?_
        refine lv_i2l hx hb dL_law_1625 rfl ?_
        refine W.lcmp hx hb dL_law_1626 ?_
        refine lv_if_eq (tgt := 1632) hx hb dL_law_1627 (by decide) (fun _ => ?_) (fun z => absurd ((lg_cmp_eq _ _).mpr ((if_pos h0).trans (congrArg Int32.toInt64 hP.symm))) z)
        refine lv_goto (tgt := 2283) hx hb dL_law_1632 (by decide) ?_
        exact kk _ _ _ _ _ _ _ _ _ _ _ _ hL sim1 mod1 his1 ht1 hS (lv_sub hl [2, 3, 4, 5, 6, 7] rfl) (by omega) (by omega)
set_option maxRecDepth 100000 in
set_option maxHeartbeats 4000000 in
theorem zcs_21 (C : zlC p l s m c args D cy rf N b L xs H0) (hin : ∀ j : Int32, j = 1 ∨ j = 2 ∨ j = 3 ∨ j = 4 → vp_in (i + j) L) (hL : zLH D cy N σ ρ δ μ w v H) (sim : zsim σ μ τ) (mod : ymod μ τ) (his : zhist δ μ τ) (hN : zn τ 512 < 512) (hS : va_S (zLA N) H0 H locs) (hl : lv_has ls 9 [(5, .int i), (4, .ref (N + 379)), (3, .ref (N + 378)), (2, .ref (zxm N 30 0)), (1, .ref N), (0, .ref b)]) (hcs : cells + 2 ≤ 603072 ∧ slots + 12 ≤ 7223402) (kk : zlK p l e s m args below meth c Q D cy N b i H0 (zn τ 512 + 1) (cells + 2) (slots + 12)) : W p l e room_1 s m args below meth c H locs cells slots Q (F0 m 1635 ls []) := by
  obtain ⟨X, hml, hK, hE, hNc, hX, hbH, hbN, hl0⟩ := id C
  obtain ⟨hx, hb, -, -⟩ := id X
  have hbA : ¬ zLA N b := fun z => absurd hbN (Nat.not_lt.mpr z)
  have hV := sim.V mod
  have hyV := mod.V
  obtain ⟨eF, eP⟩ := rd_stateOf sim mod (xs (i + 1).toNatClampNeg)
  obtain ⟨e838, sim1, mod1, his1⟩ := rd_fin eF sim mod his
  refine lv_aload_n hx hb dL_law_1635 rfl (lv_at hl 4 rfl) ?_
  refine lv_aload_n hx hb dL_law_1636 rfl (lv_at hl 5 rfl) ?_
  refine lv_iload hx hb dL_law_1637 (lv_at hl 0 rfl) ?_
  refine lv_iconst (v := 1) hx hb dL_law_1639 (by decide) ?_
  refine lv_iadd hx hb dL_law_1640 ?_
  refine va_sld hx hb hX hbH hbA hS (hin _ (by decide)) dL_law_1641 ?_
  refine lv_aload_n hx hb dL_law_1642 rfl (lv_at hl 2 rfl) ?_
  refine zlW (As := [.ref N, .int (xs (i + 1).toNatClampNeg), .ref (N + 378)]) (rest := []) X hml hK hE hNc hL (ctL_stateOf l hl0 D cy rf N (zxb N 0 0) (zxa N) σ (zxd N) δ (N + 378) w zu_ob (xs (i + 1).toNatClampNeg) hV (rd_hch sim mod)) zmL_stateOf (by decide) m_961 ⟨Nat.le_of_ble_eq_true rfl, Nat.le_of_ble_eq_true rfl⟩ ⟨by show _ ≤ 603072; omega, by show _ ≤ 7223402; omega⟩ rfl hl.1 rfl (Nat.le_of_ble_eq_true rfl) dL_law_1643 hS (fun H locs hL hS => ?_)
  refine lv_istore (lv' := [(6, .int (zkc [1] (k_at σ (xs (i + 1).toNatClampNeg)))), (5, .int i), (4, .ref (N + 379)), (3, .ref (N + 378)), (2, .ref (zxm N 30 0)), (1, .ref N), (0, .ref b)]) hx hb dL_law_1646 hl (by decide) rfl (fun ls hl => ?_)
  refine lv_aload_n hx hb dL_law_1648 rfl (lv_at hl 4 rfl) ?_
  refine lv_aload_n hx hb dL_law_1649 rfl (lv_at hl 6 rfl) ?_
  refine lv_iload hx hb dL_law_1650 (lv_at hl 1 rfl) ?_
  refine lv_iconst (v := 1) hx hb dL_law_1652 (by decide) ?_
  refine lv_iadd hx hb dL_law_1653 ?_
  refine va_sld hx hb hX hbH hbA hS (hin _ (by decide)) dL_law_1654 ?_
  refine zlM (As := [.int (xs (i + 1).toNatClampNeg)]) (rest := []) X hml hK hL (ctX10_stateOf l D cy (zxm N) μ zu_jm (xs (i + 1).toNatClampNeg) hyV) zmX10_stateOf (by decide) m_1431 ⟨Nat.le_of_ble_eq_true rfl, Nat.le_of_ble_eq_true rfl⟩ ⟨by show _ ≤ 603072; omega, by show _ ≤ 7223402; omega⟩ rfl hl.1 rfl (Nat.le_of_ble_eq_true rfl) dL_law_1655 hS (fun H locs hL hS => ?_)
  refine lv_istore (lv' := [(7, .int (r_X10_stateOf μ (xs (i + 1).toNatClampNeg))), (6, .int (zkc [1] (k_at σ (xs (i + 1).toNatClampNeg)))), (5, .int i), (4, .ref (N + 379)), (3, .ref (N + 378)), (2, .ref (zxm N 30 0)), (1, .ref N), (0, .ref b)]) hx hb dL_law_1658 hl (by decide) rfl (fun ls hl => ?_)
  refine lv_aload_n hx hb dL_law_1660 rfl (lv_at hl 5 rfl) ?_
  refine zlT (rest := []) X hml hK hL m_1251 ⟨Nat.le_of_ble_eq_true rfl, Nat.le_of_ble_eq_true rfl⟩ ⟨by show _ ≤ 603072; omega, by show _ ≤ 7223402; omega⟩ hl.1 (Nat.le_of_ble_eq_true rfl) dL_law_1661 ?_
  refine lv_iload hx hb dL_law_1664 (lv_at hl 1 rfl) ?_
  refine lv_icmp_eq (tgt := 1671) hx hb dL_law_1666 (by decide) (fun _ => ?_) (fun z => absurd e838 z)
  refine lv_iload hx hb dL_law_1671 (lv_at hl 1 rfl) ?_
  refine lv_if_ne (tgt := 1688) hx hb dL_law_1673 (by decide) (fun _ => ?_) (fun z => ?_)
  · refine lv_goto (tgt := 2283) hx hb dL_law_1688 (by decide) ?_
    exact kk _ _ _ _ _ _ _ _ _ _ _ _ hL sim1 mod1 his1 (Nat.le_succ _) hS (lv_sub hl [2, 3, 4, 5, 6, 7] rfl) (by omega) (by omega)
  · have h0 := zkc_0 (by decide) z
    have hP := eP h0
    refine lv_aload_n hx hb dL_law_1676 rfl (lv_at hl 4 rfl) ?_
    refine lv_iconst (v := 0) hx hb dL_law_1677 (by decide) ?_
    refine zlO X hK hL dL_law_1678 ?_
    refine lv_iload hx hb dL_law_1679 (lv_at hl 0 rfl) ?_
    refine lv_i2l hx hb dL_law_1681 rfl ?_
    refine W.lcmp hx hb dL_law_1682 ?_
    refine lv_if_eq (tgt := 1688) hx hb dL_law_1683 (by decide) (fun _ => ?_) (fun z => absurd ((lg_cmp_eq _ _).mpr ((if_pos h0).trans (congrArg Int32.toInt64 hP.symm))) z)
    refine lv_goto (tgt := 2283) hx hb dL_law_1688 (by decide) ?_
    exact kk _ _ _ _ _ _ _ _ _ _ _ _ hL sim1 mod1 his1 (Nat.le_succ _) hS (lv_sub hl [2, 3, 4, 5, 6, 7] rfl) (by omega) (by omega)
set_option maxRecDepth 100000 in
set_option maxHeartbeats 4000000 in
theorem zcs_22 (C : zlC p l s m c args D cy rf N b L xs H0) (hin : ∀ j : Int32, j = 1 ∨ j = 2 ∨ j = 3 ∨ j = 4 → vp_in (i + j) L) (hL : zLH D cy N σ ρ δ μ w v H) (sim : zsim σ μ τ) (mod : ymod μ τ) (his : zhist δ μ τ) (hN : zn τ 512 < 512) (hS : va_S (zLA N) H0 H locs) (hl : lv_has ls 9 [(5, .int i), (4, .ref (N + 379)), (3, .ref (N + 378)), (2, .ref (zxm N 30 0)), (1, .ref N), (0, .ref b)]) (hcs : cells + 2 ≤ 603072 ∧ slots + 12 ≤ 7223402) (kk : zlK p l e s m args below meth c Q D cy N b i H0 (zn τ 512 + 1) (cells + 2) (slots + 12)) : W p l e room_1 s m args below meth c H locs cells slots Q (F0 m 1691 ls []) := by
  obtain ⟨X, hml, hK, hE, hNc, hX, hbH, hbN, hl0⟩ := id C
  obtain ⟨hx, hb, -, -⟩ := id X
  have hbA : ¬ zLA N b := fun z => absurd hbN (Nat.not_lt.mpr z)
  have hV := sim.V mod
  have hyV := mod.V
  obtain ⟨eF, eP⟩ := rd_isGrounded sim mod (xs (i + 1).toNatClampNeg)
  obtain ⟨e838, sim1, mod1, his1⟩ := rd_fin eF sim mod his
  refine lv_aload_n hx hb dL_law_1691 rfl (lv_at hl 4 rfl) ?_
  refine lv_aload_n hx hb dL_law_1692 rfl (lv_at hl 5 rfl) ?_
  refine lv_iload hx hb dL_law_1693 (lv_at hl 0 rfl) ?_
  refine lv_iconst (v := 1) hx hb dL_law_1695 (by decide) ?_
  refine lv_iadd hx hb dL_law_1696 ?_
  refine va_sld hx hb hX hbH hbA hS (hin _ (by decide)) dL_law_1697 ?_
  refine lv_aload_n hx hb dL_law_1698 rfl (lv_at hl 2 rfl) ?_
  refine zlW (As := [.ref N, .int (xs (i + 1).toNatClampNeg), .ref (N + 378)]) (rest := []) X hml hK hE hNc hL (ctL_isGrounded l hl0 D cy rf N (zxb N 0 0) (zxa N) σ (zxd N) δ (N + 378) w zu_ob (xs (i + 1).toNatClampNeg) hV) zmL_isGrounded (by decide) m_974 ⟨Nat.le_of_ble_eq_true rfl, Nat.le_of_ble_eq_true rfl⟩ ⟨by show _ ≤ 603072; omega, by show _ ≤ 7223402; omega⟩ rfl hl.1 rfl (Nat.le_of_ble_eq_true rfl) dL_law_1699 hS (fun H locs hL hS => ?_)
  refine lv_istore (lv' := [(6, .int (zkc [1] (k_at σ (xs (i + 1).toNatClampNeg)))), (5, .int i), (4, .ref (N + 379)), (3, .ref (N + 378)), (2, .ref (zxm N 30 0)), (1, .ref N), (0, .ref b)]) hx hb dL_law_1702 hl (by decide) rfl (fun ls hl => ?_)
  refine lv_aload_n hx hb dL_law_1704 rfl (lv_at hl 4 rfl) ?_
  refine lv_aload_n hx hb dL_law_1705 rfl (lv_at hl 6 rfl) ?_
  refine lv_iload hx hb dL_law_1706 (lv_at hl 1 rfl) ?_
  refine lv_iconst (v := 1) hx hb dL_law_1708 (by decide) ?_
  refine lv_iadd hx hb dL_law_1709 ?_
  refine va_sld hx hb hX hbH hbA hS (hin _ (by decide)) dL_law_1710 ?_
  refine zlM (As := [.int (xs (i + 1).toNatClampNeg)]) (rest := []) X hml hK hL (ctX10_isGrounded l D cy (zxm N) μ zu_jm (xs (i + 1).toNatClampNeg) hyV) zmX10_isGrounded (by decide) m_1435 ⟨Nat.le_of_ble_eq_true rfl, Nat.le_of_ble_eq_true rfl⟩ ⟨by show _ ≤ 603072; omega, by show _ ≤ 7223402; omega⟩ rfl hl.1 rfl (Nat.le_of_ble_eq_true rfl) dL_law_1711 hS (fun H locs hL hS => ?_)
  refine lv_istore (lv' := [(7, .int (bI (r_X10_isGrounded μ (xs (i + 1).toNatClampNeg)))), (6, .int (zkc [1] (k_at σ (xs (i + 1).toNatClampNeg)))), (5, .int i), (4, .ref (N + 379)), (3, .ref (N + 378)), (2, .ref (zxm N 30 0)), (1, .ref N), (0, .ref b)]) hx hb dL_law_1714 hl (by decide) rfl (fun ls hl => ?_)
  refine lv_aload_n hx hb dL_law_1716 rfl (lv_at hl 5 rfl) ?_
  refine zlT (rest := []) X hml hK hL m_1251 ⟨Nat.le_of_ble_eq_true rfl, Nat.le_of_ble_eq_true rfl⟩ ⟨by show _ ≤ 603072; omega, by show _ ≤ 7223402; omega⟩ hl.1 (Nat.le_of_ble_eq_true rfl) dL_law_1717 ?_
  refine lv_iload hx hb dL_law_1720 (lv_at hl 1 rfl) ?_
  refine lv_icmp_eq (tgt := 1727) hx hb dL_law_1722 (by decide) (fun _ => ?_) (fun z => absurd e838 z)
  refine lv_iload hx hb dL_law_1727 (lv_at hl 1 rfl) ?_
  refine lv_if_ne (tgt := 1751) hx hb dL_law_1729 (by decide) (fun _ => ?_) (fun z => ?_)
  · refine lv_goto (tgt := 2283) hx hb dL_law_1751 (by decide) ?_
    exact kk _ _ _ _ _ _ _ _ _ _ _ _ hL sim1 mod1 his1 (Nat.le_succ _) hS (lv_sub hl [2, 3, 4, 5, 6, 7] rfl) (by omega) (by omega)
  · have h0 := zkc_0 (by decide) z
    have hP := eP h0
    refine lv_aload_n hx hb dL_law_1732 rfl (lv_at hl 4 rfl) ?_
    refine lv_iconst (v := 0) hx hb dL_law_1733 (by decide) ?_
    refine zlO X hK hL dL_law_1734 ?_
    refine lv_iload hx hb dL_law_1735 (lv_at hl 0 rfl) ?_
    refine zb_eq (tgt := 1744) hx hb dL_law_1737 (by decide) (fun qb => ?_) (fun qb => ?_)
    · refine lv_lconst (v := 0) hx hb dL_law_1744 rfl ?_
      refine W.lcmp hx hb dL_law_1745 ?_
      refine lv_if_eq (tgt := 1751) hx hb dL_law_1746 (by decide) (fun _ => ?_) (fun z => absurd ((lg_cmp_eq _ _).mpr ((if_pos h0).trans (by rw [← hP, qb]; rfl))) z)
      refine lv_goto (tgt := 2283) hx hb dL_law_1751 (by decide) ?_
      exact kk _ _ _ _ _ _ _ _ _ _ _ _ hL sim1 mod1 his1 (Nat.le_succ _) hS (lv_sub hl [2, 3, 4, 5, 6, 7] rfl) (by omega) (by omega)
    · refine lv_lconst (v := 1) hx hb dL_law_1740 rfl ?_
      refine lv_goto (tgt := 1745) hx hb dL_law_1741 (by decide) ?_
      refine W.lcmp hx hb dL_law_1745 ?_
      refine lv_if_eq (tgt := 1751) hx hb dL_law_1746 (by decide) (fun _ => ?_) (fun z => absurd ((lg_cmp_eq _ _).mpr ((if_pos h0).trans (by rw [← hP, qb]; rfl))) z)
      refine lv_goto (tgt := 2283) hx hb dL_law_1751 (by decide) ?_
      exact kk _ _ _ _ _ _ _ _ _ _ _ _ hL sim1 mod1 his1 (Nat.le_succ _) hS (lv_sub hl [2, 3, 4, 5, 6, 7] rfl) (by omega) (by omega)
set_option maxRecDepth 100000 in
set_option maxHeartbeats 4000000 in
theorem zcs_23 (C : zlC p l s m c args D cy rf N b L xs H0) (hin : ∀ j : Int32, j = 1 ∨ j = 2 ∨ j = 3 ∨ j = 4 → vp_in (i + j) L) (hL : zLH D cy N σ ρ δ μ w v H) (sim : zsim σ μ τ) (mod : ymod μ τ) (his : zhist δ μ τ) (hN : zn τ 512 < 512) (hS : va_S (zLA N) H0 H locs) (hl : lv_has ls 9 [(5, .int i), (4, .ref (N + 379)), (3, .ref (N + 378)), (2, .ref (zxm N 30 0)), (1, .ref N), (0, .ref b)]) (hcs : cells + 2 ≤ 603072 ∧ slots + 12 ≤ 7223402) (kk : zlK p l e s m args below meth c Q D cy N b i H0 (zn τ 512 + 1) (cells + 2) (slots + 12)) : W p l e room_1 s m args below meth c H locs cells slots Q (F0 m 1754 ls []) := by
  obtain ⟨X, hml, hK, hE, hNc, hX, hbH, hbN, hl0⟩ := id C
  obtain ⟨hx, hb, -, -⟩ := id X
  have hbA : ¬ zLA N b := fun z => absurd hbN (Nat.not_lt.mpr z)
  have hV := sim.V mod
  have hyV := mod.V
  obtain ⟨eF, eP⟩ := rd_isOut sim mod (xs (i + 1).toNatClampNeg)
  obtain ⟨e838, sim1, mod1, his1⟩ := rd_fin eF sim mod his
  refine lv_aload_n hx hb dL_law_1754 rfl (lv_at hl 4 rfl) ?_
  refine lv_aload_n hx hb dL_law_1755 rfl (lv_at hl 5 rfl) ?_
  refine lv_iload hx hb dL_law_1756 (lv_at hl 0 rfl) ?_
  refine lv_iconst (v := 1) hx hb dL_law_1758 (by decide) ?_
  refine lv_iadd hx hb dL_law_1759 ?_
  refine va_sld hx hb hX hbH hbA hS (hin _ (by decide)) dL_law_1760 ?_
  refine lv_aload_n hx hb dL_law_1761 rfl (lv_at hl 2 rfl) ?_
  refine zlW (As := [.ref N, .int (xs (i + 1).toNatClampNeg), .ref (N + 378)]) (rest := []) X hml hK hE hNc hL (ctL_isOut l hl0 D cy rf N (zxb N 0 0) (zxa N) σ (zxd N) δ (N + 378) w zu_ob (xs (i + 1).toNatClampNeg) hV) zmL_isOut (by decide) m_982 ⟨Nat.le_of_ble_eq_true rfl, Nat.le_of_ble_eq_true rfl⟩ ⟨by show _ ≤ 603072; omega, by show _ ≤ 7223402; omega⟩ rfl hl.1 rfl (Nat.le_of_ble_eq_true rfl) dL_law_1762 hS (fun H locs hL hS => ?_)
  refine lv_istore (lv' := [(6, .int (zkc [1] (k_at σ (xs (i + 1).toNatClampNeg)))), (5, .int i), (4, .ref (N + 379)), (3, .ref (N + 378)), (2, .ref (zxm N 30 0)), (1, .ref N), (0, .ref b)]) hx hb dL_law_1765 hl (by decide) rfl (fun ls hl => ?_)
  refine lv_aload_n hx hb dL_law_1767 rfl (lv_at hl 4 rfl) ?_
  refine lv_aload_n hx hb dL_law_1768 rfl (lv_at hl 6 rfl) ?_
  refine lv_iload hx hb dL_law_1769 (lv_at hl 1 rfl) ?_
  refine lv_iconst (v := 1) hx hb dL_law_1771 (by decide) ?_
  refine lv_iadd hx hb dL_law_1772 ?_
  refine va_sld hx hb hX hbH hbA hS (hin _ (by decide)) dL_law_1773 ?_
  refine zlM (As := [.int (xs (i + 1).toNatClampNeg)]) (rest := []) X hml hK hL (ctX10_isOut l D cy (zxm N) μ zu_jm (xs (i + 1).toNatClampNeg) hyV) zmX10_isOut (by decide) m_1439 ⟨Nat.le_of_ble_eq_true rfl, Nat.le_of_ble_eq_true rfl⟩ ⟨by show _ ≤ 603072; omega, by show _ ≤ 7223402; omega⟩ rfl hl.1 rfl (Nat.le_of_ble_eq_true rfl) dL_law_1774 hS (fun H locs hL hS => ?_)
  refine lv_istore (lv' := [(7, .int (bI (r_X10_isOut μ (xs (i + 1).toNatClampNeg)))), (6, .int (zkc [1] (k_at σ (xs (i + 1).toNatClampNeg)))), (5, .int i), (4, .ref (N + 379)), (3, .ref (N + 378)), (2, .ref (zxm N 30 0)), (1, .ref N), (0, .ref b)]) hx hb dL_law_1777 hl (by decide) rfl (fun ls hl => ?_)
  refine lv_aload_n hx hb dL_law_1779 rfl (lv_at hl 5 rfl) ?_
  refine zlT (rest := []) X hml hK hL m_1251 ⟨Nat.le_of_ble_eq_true rfl, Nat.le_of_ble_eq_true rfl⟩ ⟨by show _ ≤ 603072; omega, by show _ ≤ 7223402; omega⟩ hl.1 (Nat.le_of_ble_eq_true rfl) dL_law_1780 ?_
  refine lv_iload hx hb dL_law_1783 (lv_at hl 1 rfl) ?_
  refine lv_icmp_eq (tgt := 1790) hx hb dL_law_1785 (by decide) (fun _ => ?_) (fun z => absurd e838 z)
  refine lv_iload hx hb dL_law_1790 (lv_at hl 1 rfl) ?_
  refine lv_if_ne (tgt := 1814) hx hb dL_law_1792 (by decide) (fun _ => ?_) (fun z => ?_)
  · refine lv_goto (tgt := 2283) hx hb dL_law_1814 (by decide) ?_
    exact kk _ _ _ _ _ _ _ _ _ _ _ _ hL sim1 mod1 his1 (Nat.le_succ _) hS (lv_sub hl [2, 3, 4, 5, 6, 7] rfl) (by omega) (by omega)
  · have h0 := zkc_0 (by decide) z
    have hP := eP h0
    refine lv_aload_n hx hb dL_law_1795 rfl (lv_at hl 4 rfl) ?_
    refine lv_iconst (v := 0) hx hb dL_law_1796 (by decide) ?_
    refine zlO X hK hL dL_law_1797 ?_
    refine lv_iload hx hb dL_law_1798 (lv_at hl 0 rfl) ?_
    refine zb_eq (tgt := 1807) hx hb dL_law_1800 (by decide) (fun qb => ?_) (fun qb => ?_)
    · refine lv_lconst (v := 0) hx hb dL_law_1807 rfl ?_
      refine W.lcmp hx hb dL_law_1808 ?_
      refine lv_if_eq (tgt := 1814) hx hb dL_law_1809 (by decide) (fun _ => ?_) (fun z => absurd ((lg_cmp_eq _ _).mpr ((if_pos h0).trans (by rw [← hP, qb]; rfl))) z)
      refine lv_goto (tgt := 2283) hx hb dL_law_1814 (by decide) ?_
      exact kk _ _ _ _ _ _ _ _ _ _ _ _ hL sim1 mod1 his1 (Nat.le_succ _) hS (lv_sub hl [2, 3, 4, 5, 6, 7] rfl) (by omega) (by omega)
    · refine lv_lconst (v := 1) hx hb dL_law_1803 rfl ?_
      refine lv_goto (tgt := 1808) hx hb dL_law_1804 (by decide) ?_
      refine W.lcmp hx hb dL_law_1808 ?_
      refine lv_if_eq (tgt := 1814) hx hb dL_law_1809 (by decide) (fun _ => ?_) (fun z => absurd ((lg_cmp_eq _ _).mpr ((if_pos h0).trans (by rw [← hP, qb]; rfl))) z)
      refine lv_goto (tgt := 2283) hx hb dL_law_1814 (by decide) ?_
      exact kk _ _ _ _ _ _ _ _ _ _ _ _ hL sim1 mod1 his1 (Nat.le_succ _) hS (lv_sub hl [2, 3, 4, 5, 6, 7] rfl) (by omega) (by omega)
set_option maxRecDepth 100000 in
set_option maxHeartbeats 4000000 in
theorem zcs_24 (C : zlC p l s m c args D cy rf N b L xs H0) (hin : ∀ j : Int32, j = 1 ∨ j = 2 ∨ j = 3 ∨ j = 4 → vp_in (i + j) L) (hL : zLH D cy N σ ρ δ μ w v H) (sim : zsim σ μ τ) (mod : ymod μ τ) (his : zhist δ μ τ) (hN : zn τ 512 < 512) (hS : va_S (zLA N) H0 H locs) (hl : lv_has ls 9 [(5, .int i), (4, .ref (N + 379)), (3, .ref (N + 378)), (2, .ref (zxm N 30 0)), (1, .ref N), (0, .ref b)]) (hcs : cells + 2 ≤ 603072 ∧ slots + 12 ≤ 7223402) (kk : zlK p l e s m args below meth c Q D cy N b i H0 (zn τ 512 + 1) (cells + 2) (slots + 12)) : W p l e room_1 s m args below meth c H locs cells slots Q (F0 m 1817 ls []) := by
  obtain ⟨X, hml, hK, hE, hNc, hX, hbH, hbN, hl0⟩ := id C
  obtain ⟨hx, hb, -, -⟩ := id X
  have hbA : ¬ zLA N b := fun z => absurd hbN (Nat.not_lt.mpr z)
  have hV := sim.V mod
  have hyV := mod.V
  obtain ⟨eF, eP⟩ := rd_packings sim mod (xs (i + 1).toNatClampNeg)
  obtain ⟨e838, sim1, mod1, his1⟩ := rd_fin eF sim mod his
  refine lv_aload_n hx hb dL_law_1817 rfl (lv_at hl 4 rfl) ?_
  refine lv_aload_n hx hb dL_law_1818 rfl (lv_at hl 5 rfl) ?_
  refine lv_iload hx hb dL_law_1819 (lv_at hl 0 rfl) ?_
  refine lv_iconst (v := 1) hx hb dL_law_1821 (by decide) ?_
  refine lv_iadd hx hb dL_law_1822 ?_
  refine va_sld hx hb hX hbH hbA hS (hin _ (by decide)) dL_law_1823 ?_
  refine lv_aload_n hx hb dL_law_1824 rfl (lv_at hl 2 rfl) ?_
  refine zlW (As := [.ref N, .int (xs (i + 1).toNatClampNeg), .ref (N + 378)]) (rest := []) X hml hK hE hNc hL (ctL_packings l hl0 D cy rf N (zxb N 0 0) (zxa N) σ (zxd N) δ (N + 378) w zu_ob (xs (i + 1).toNatClampNeg) hV) zmL_packings (by decide) m_990 ⟨Nat.le_of_ble_eq_true rfl, Nat.le_of_ble_eq_true rfl⟩ ⟨by show _ ≤ 603072; omega, by show _ ≤ 7223402; omega⟩ rfl hl.1 rfl (Nat.le_of_ble_eq_true rfl) dL_law_1825 hS (fun H locs hL hS => ?_)
  refine lv_istore (lv' := [(6, .int (zkc [1] (k_at σ (xs (i + 1).toNatClampNeg)))), (5, .int i), (4, .ref (N + 379)), (3, .ref (N + 378)), (2, .ref (zxm N 30 0)), (1, .ref N), (0, .ref b)]) hx hb dL_law_1828 hl (by decide) rfl (fun ls hl => ?_)
  refine lv_aload_n hx hb dL_law_1830 rfl (lv_at hl 4 rfl) ?_
  refine lv_aload_n hx hb dL_law_1831 rfl (lv_at hl 6 rfl) ?_
  refine lv_iload hx hb dL_law_1832 (lv_at hl 1 rfl) ?_
  refine lv_iconst (v := 1) hx hb dL_law_1834 (by decide) ?_
  refine lv_iadd hx hb dL_law_1835 ?_
  refine va_sld hx hb hX hbH hbA hS (hin _ (by decide)) dL_law_1836 ?_
  refine zlM (As := [.int (xs (i + 1).toNatClampNeg)]) (rest := []) X hml hK hL (ctX10_packings l D cy (zxm N) μ zu_jm (xs (i + 1).toNatClampNeg) hyV) zmX10_packings (by decide) m_1443 ⟨Nat.le_of_ble_eq_true rfl, Nat.le_of_ble_eq_true rfl⟩ ⟨by show _ ≤ 603072; omega, by show _ ≤ 7223402; omega⟩ rfl hl.1 rfl (Nat.le_of_ble_eq_true rfl) dL_law_1837 hS (fun H locs hL hS => ?_)
  refine lv_istore (lv' := [(7, .int (r_X10_packings μ (xs (i + 1).toNatClampNeg))), (6, .int (zkc [1] (k_at σ (xs (i + 1).toNatClampNeg)))), (5, .int i), (4, .ref (N + 379)), (3, .ref (N + 378)), (2, .ref (zxm N 30 0)), (1, .ref N), (0, .ref b)]) hx hb dL_law_1840 hl (by decide) rfl (fun ls hl => ?_)
  refine lv_aload_n hx hb dL_law_1842 rfl (lv_at hl 5 rfl) ?_
  refine zlT (rest := []) X hml hK hL m_1251 ⟨Nat.le_of_ble_eq_true rfl, Nat.le_of_ble_eq_true rfl⟩ ⟨by show _ ≤ 603072; omega, by show _ ≤ 7223402; omega⟩ hl.1 (Nat.le_of_ble_eq_true rfl) dL_law_1843 ?_
  refine lv_iload hx hb dL_law_1846 (lv_at hl 1 rfl) ?_
  refine lv_icmp_eq (tgt := 1853) hx hb dL_law_1848 (by decide) (fun _ => ?_) (fun z => absurd e838 z)
  refine lv_iload hx hb dL_law_1853 (lv_at hl 1 rfl) ?_
  refine lv_if_ne (tgt := 1870) hx hb dL_law_1855 (by decide) (fun _ => ?_) (fun z => ?_)
  · refine lv_goto (tgt := 2283) hx hb dL_law_1870 (by decide) ?_
    exact kk _ _ _ _ _ _ _ _ _ _ _ _ hL sim1 mod1 his1 (Nat.le_succ _) hS (lv_sub hl [2, 3, 4, 5, 6, 7] rfl) (by omega) (by omega)
  · have h0 := zkc_0 (by decide) z
    have hP := eP h0
    refine lv_aload_n hx hb dL_law_1858 rfl (lv_at hl 4 rfl) ?_
    refine lv_iconst (v := 0) hx hb dL_law_1859 (by decide) ?_
    refine zlO X hK hL dL_law_1860 ?_
    refine lv_iload hx hb dL_law_1861 (lv_at hl 0 rfl) ?_
    refine lv_i2l hx hb dL_law_1863 rfl ?_
    refine W.lcmp hx hb dL_law_1864 ?_
    refine lv_if_eq (tgt := 1870) hx hb dL_law_1865 (by decide) (fun _ => ?_) (fun z => absurd ((lg_cmp_eq _ _).mpr ((if_pos h0).trans (congrArg Int32.toInt64 hP.symm))) z)
    refine lv_goto (tgt := 2283) hx hb dL_law_1870 (by decide) ?_
    exact kk _ _ _ _ _ _ _ _ _ _ _ _ hL sim1 mod1 his1 (Nat.le_succ _) hS (lv_sub hl [2, 3, 4, 5, 6, 7] rfl) (by omega) (by omega)
set_option maxRecDepth 100000 in
set_option maxHeartbeats 4000000 in
theorem zcs_25 (C : zlC p l s m c args D cy rf N b L xs H0) (hin : ∀ j : Int32, j = 1 ∨ j = 2 ∨ j = 3 ∨ j = 4 → vp_in (i + j) L) (hL : zLH D cy N σ ρ δ μ w v H) (sim : zsim σ μ τ) (mod : ymod μ τ) (his : zhist δ μ τ) (hN : zn τ 512 < 512) (hS : va_S (zLA N) H0 H locs) (hl : lv_has ls 9 [(5, .int i), (4, .ref (N + 379)), (3, .ref (N + 378)), (2, .ref (zxm N 30 0)), (1, .ref N), (0, .ref b)]) (hcs : cells + 2 ≤ 603072 ∧ slots + 12 ≤ 7223402) (kk : zlK p l e s m args below meth c Q D cy N b i H0 (zn τ 512 + 1) (cells + 2) (slots + 12)) : W p l e room_1 s m args below meth c H locs cells slots Q (F0 m 1873 ls []) := by
  obtain ⟨X, hml, hK, hE, hNc, hX, hbH, hbN, hl0⟩ := id C
  obtain ⟨hx, hb, -, -⟩ := id X
  have hbA : ¬ zLA N b := fun z => absurd hbN (Nat.not_lt.mpr z)
  have hV := sim.V mod
  have hyV := mod.V
  obtain ⟨eF, eP⟩ := rd_packingOf sim mod (xs (i + 1).toNatClampNeg) (xs (i + 2).toNatClampNeg) (((xs (i + 3).toNatClampNeg).toUInt32 % 65536).toInt32)
  obtain ⟨e838, sim1, mod1, his1⟩ := rd_fin eF sim mod his
  refine lv_aload_n hx hb dL_law_1873 rfl (lv_at hl 4 rfl) ?_
  refine lv_aload_n hx hb dL_law_1874 rfl (lv_at hl 5 rfl) ?_
  refine lv_iload hx hb dL_law_1875 (lv_at hl 0 rfl) ?_
  refine lv_iconst (v := 1) hx hb dL_law_1877 (by decide) ?_
  refine lv_iadd hx hb dL_law_1878 ?_
  refine va_sld hx hb hX hbH hbA hS (hin _ (by decide)) dL_law_1879 ?_
  refine lv_aload_n hx hb dL_law_1880 rfl (lv_at hl 5 rfl) ?_
  refine lv_iload hx hb dL_law_1881 (lv_at hl 0 rfl) ?_
  refine lv_iconst (v := 2) hx hb dL_law_1883 (by decide) ?_
  refine lv_iadd hx hb dL_law_1884 ?_
  refine va_sld hx hb hX hbH hbA hS (hin _ (by decide)) dL_law_1885 ?_
  refine lv_aload_n hx hb dL_law_1886 rfl (lv_at hl 5 rfl) ?_
  refine lv_iload hx hb dL_law_1887 (lv_at hl 0 rfl) ?_
  refine lv_iconst (v := 3) hx hb dL_law_1889 (by decide) ?_
  refine lv_iadd hx hb dL_law_1890 ?_
  refine va_sld hx hb hX hbH hbA hS (hin _ (by decide)) dL_law_1891 ?_
  refine lv_i2c (v := ((xs (i + 3).toNatClampNeg).toUInt32 % 65536).toInt32) hx hb dL_law_1892 rfl ?_
  refine lv_aload_n hx hb dL_law_1893 rfl (lv_at hl 2 rfl) ?_
  refine zlW (As := [.ref N, .int (xs (i + 1).toNatClampNeg), .int (xs (i + 2).toNatClampNeg), .int (((xs (i + 3).toNatClampNeg).toUInt32 % 65536).toInt32), .ref (N + 378)]) (rest := []) X hml hK hE hNc hL (ctL_packingOf l hl0 D cy rf N (zxb N 0 0) (zxa N) σ (zxd N) δ (N + 378) w zu_ob (xs (i + 1).toNatClampNeg) (xs (i + 2).toNatClampNeg) (((xs (i + 3).toNatClampNeg).toUInt32 % 65536).toInt32) hV) zmL_packingOf (by decide) m_997 ⟨Nat.le_of_ble_eq_true rfl, Nat.le_of_ble_eq_true rfl⟩ ⟨by show _ ≤ 603072; omega, by show _ ≤ 7223402; omega⟩ rfl hl.1 rfl (Nat.le_of_ble_eq_true rfl) dL_law_1894 hS (fun H locs hL hS => ?_)
  refine lv_istore (lv' := [(6, .int (zkc [1, 2] (k_pkr σ (xs (i + 1).toNatClampNeg) (xs (i + 2).toNatClampNeg) (((xs (i + 3).toNatClampNeg).toUInt32 % 65536).toInt32)))), (5, .int i), (4, .ref (N + 379)), (3, .ref (N + 378)), (2, .ref (zxm N 30 0)), (1, .ref N), (0, .ref b)]) hx hb dL_law_1897 hl (by decide) rfl (fun ls hl => ?_)
  refine lv_aload_n hx hb dL_law_1899 rfl (lv_at hl 4 rfl) ?_
  refine lv_aload_n hx hb dL_law_1900 rfl (lv_at hl 6 rfl) ?_
  refine lv_iload hx hb dL_law_1901 (lv_at hl 1 rfl) ?_
  refine lv_iconst (v := 1) hx hb dL_law_1903 (by decide) ?_
  refine lv_iadd hx hb dL_law_1904 ?_
  refine va_sld hx hb hX hbH hbA hS (hin _ (by decide)) dL_law_1905 ?_
  refine lv_aload_n hx hb dL_law_1906 rfl (lv_at hl 6 rfl) ?_
  refine lv_iload hx hb dL_law_1907 (lv_at hl 1 rfl) ?_
  refine lv_iconst (v := 2) hx hb dL_law_1909 (by decide) ?_
  refine lv_iadd hx hb dL_law_1910 ?_
  refine va_sld hx hb hX hbH hbA hS (hin _ (by decide)) dL_law_1911 ?_
  refine lv_aload_n hx hb dL_law_1912 rfl (lv_at hl 6 rfl) ?_
  refine lv_iload hx hb dL_law_1913 (lv_at hl 1 rfl) ?_
  refine lv_iconst (v := 3) hx hb dL_law_1915 (by decide) ?_
  refine lv_iadd hx hb dL_law_1916 ?_
  refine va_sld hx hb hX hbH hbA hS (hin _ (by decide)) dL_law_1917 ?_
  refine lv_i2c (v := ((xs (i + 3).toNatClampNeg).toUInt32 % 65536).toInt32) hx hb dL_law_1918 rfl ?_
  refine zlM (As := [.int (xs (i + 1).toNatClampNeg), .int (xs (i + 2).toNatClampNeg), .int (((xs (i + 3).toNatClampNeg).toUInt32 % 65536).toInt32)]) (rest := []) X hml hK hL (ctX10_packingOf l D cy (zxm N) μ zu_jm (xs (i + 1).toNatClampNeg) (xs (i + 2).toNatClampNeg) (((xs (i + 3).toNatClampNeg).toUInt32 % 65536).toInt32) hyV) zmX10_packingOf (by decide) m_1451 ⟨Nat.le_of_ble_eq_true rfl, Nat.le_of_ble_eq_true rfl⟩ ⟨by show _ ≤ 603072; omega, by show _ ≤ 7223402; omega⟩ rfl hl.1 rfl (Nat.le_of_ble_eq_true rfl) dL_law_1919 hS (fun H locs hL hS => ?_)
  refine lv_istore (lv' := [(7, .int (r_X10_packingOf μ (xs (i + 1).toNatClampNeg) (xs (i + 2).toNatClampNeg) (((xs (i + 3).toNatClampNeg).toUInt32 % 65536).toInt32))), (6, .int (zkc [1, 2] (k_pkr σ (xs (i + 1).toNatClampNeg) (xs (i + 2).toNatClampNeg) (((xs (i + 3).toNatClampNeg).toUInt32 % 65536).toInt32)))), (5, .int i), (4, .ref (N + 379)), (3, .ref (N + 378)), (2, .ref (zxm N 30 0)), (1, .ref N), (0, .ref b)]) hx hb dL_law_1922 hl (by decide) rfl (fun ls hl => ?_)
  refine lv_aload_n hx hb dL_law_1924 rfl (lv_at hl 5 rfl) ?_
  refine zlT (rest := []) X hml hK hL m_1251 ⟨Nat.le_of_ble_eq_true rfl, Nat.le_of_ble_eq_true rfl⟩ ⟨by show _ ≤ 603072; omega, by show _ ≤ 7223402; omega⟩ hl.1 (Nat.le_of_ble_eq_true rfl) dL_law_1925 ?_
  refine lv_iload hx hb dL_law_1928 (lv_at hl 1 rfl) ?_
  refine lv_icmp_eq (tgt := 1935) hx hb dL_law_1930 (by decide) (fun _ => ?_) (fun z => absurd e838 z)
  refine lv_iload hx hb dL_law_1935 (lv_at hl 1 rfl) ?_
  refine lv_if_ne (tgt := 1952) hx hb dL_law_1937 (by decide) (fun _ => ?_) (fun z => ?_)
  · refine lv_goto (tgt := 2283) hx hb dL_law_1952 (by decide) ?_
    exact kk _ _ _ _ _ _ _ _ _ _ _ _ hL sim1 mod1 his1 (Nat.le_succ _) hS (lv_sub hl [2, 3, 4, 5, 6, 7] rfl) (by omega) (by omega)
  · have h0 := zkc_0 (by decide) z
    have hP := eP h0
    refine lv_aload_n hx hb dL_law_1940 rfl (lv_at hl 4 rfl) ?_
    refine lv_iconst (v := 0) hx hb dL_law_1941 (by decide) ?_
    refine zlO X hK hL dL_law_1942 ?_
    refine lv_iload hx hb dL_law_1943 (lv_at hl 0 rfl) ?_
    refine lv_i2l hx hb dL_law_1945 rfl ?_
    refine W.lcmp hx hb dL_law_1946 ?_
    refine lv_if_eq (tgt := 1952) hx hb dL_law_1947 (by decide) (fun _ => ?_) (fun z => absurd ((lg_cmp_eq _ _).mpr ((if_pos h0).trans (congrArg Int32.toInt64 hP.symm))) z)
    refine lv_goto (tgt := 2283) hx hb dL_law_1952 (by decide) ?_
    exact kk _ _ _ _ _ _ _ _ _ _ _ _ hL sim1 mod1 his1 (Nat.le_succ _) hS (lv_sub hl [2, 3, 4, 5, 6, 7] rfl) (by omega) (by omega)
set_option maxRecDepth 100000 in
set_option maxHeartbeats 4000000 in
theorem zcs_26 (C : zlC p l s m c args D cy rf N b L xs H0) (hin : ∀ j : Int32, j = 1 ∨ j = 2 ∨ j = 3 ∨ j = 4 → vp_in (i + j) L) (hL : zLH D cy N σ ρ δ μ w v H) (sim : zsim σ μ τ) (mod : ymod μ τ) (his : zhist δ μ τ) (hN : zn τ 512 < 512) (hS : va_S (zLA N) H0 H locs) (hl : lv_has ls 9 [(5, .int i), (4, .ref (N + 379)), (3, .ref (N + 378)), (2, .ref (zxm N 30 0)), (1, .ref N), (0, .ref b)]) (hcs : cells + 2 ≤ 603072 ∧ slots + 12 ≤ 7223402) (kk : zlK p l e s m args below meth c Q D cy N b i H0 (zn τ 512 + 1) (cells + 2) (slots + 12)) : W p l e room_1 s m args below meth c H locs cells slots Q (F0 m 1955 ls []) := by
  obtain ⟨X, hml, hK, hE, hNc, hX, hbH, hbN, hl0⟩ := id C
  obtain ⟨hx, hb, -, -⟩ := id X
  have hbA : ¬ zLA N b := fun z => absurd hbN (Nat.not_lt.mpr z)
  have hV := sim.V mod
  have hyV := mod.V
  obtain ⟨eF, eP⟩ := rd_jumps sim mod (xs (i + 1).toNatClampNeg)
  obtain ⟨e838, sim1, mod1, his1⟩ := rd_fin eF sim mod his
  refine lv_aload_n hx hb dL_law_1955 rfl (lv_at hl 4 rfl) ?_
  refine lv_aload_n hx hb dL_law_1956 rfl (lv_at hl 5 rfl) ?_
  refine lv_iload hx hb dL_law_1957 (lv_at hl 0 rfl) ?_
  refine lv_iconst (v := 1) hx hb dL_law_1959 (by decide) ?_
  refine lv_iadd hx hb dL_law_1960 ?_
  refine va_sld hx hb hX hbH hbA hS (hin _ (by decide)) dL_law_1961 ?_
  refine lv_aload_n hx hb dL_law_1962 rfl (lv_at hl 2 rfl) ?_
  refine zlW (As := [.ref N, .int (xs (i + 1).toNatClampNeg), .ref (N + 378)]) (rest := []) X hml hK hE hNc hL (ctL_jumps l hl0 D cy rf N (zxb N 0 0) (zxa N) σ (zxd N) δ (N + 378) w zu_ob (xs (i + 1).toNatClampNeg) hV) zmL_jumps (by decide) m_1015 ⟨Nat.le_of_ble_eq_true rfl, Nat.le_of_ble_eq_true rfl⟩ ⟨by show _ ≤ 603072; omega, by show _ ≤ 7223402; omega⟩ rfl hl.1 rfl (Nat.le_of_ble_eq_true rfl) dL_law_1963 hS (fun H locs hL hS => ?_)
  refine lv_istore (lv' := [(6, .int (zkc [1] (k_at σ (xs (i + 1).toNatClampNeg)))), (5, .int i), (4, .ref (N + 379)), (3, .ref (N + 378)), (2, .ref (zxm N 30 0)), (1, .ref N), (0, .ref b)]) hx hb dL_law_1966 hl (by decide) rfl (fun ls hl => ?_)
  refine lv_aload_n hx hb dL_law_1968 rfl (lv_at hl 4 rfl) ?_
  refine lv_aload_n hx hb dL_law_1969 rfl (lv_at hl 6 rfl) ?_
  refine lv_iload hx hb dL_law_1970 (lv_at hl 1 rfl) ?_
  refine lv_iconst (v := 1) hx hb dL_law_1972 (by decide) ?_
  refine lv_iadd hx hb dL_law_1973 ?_
  refine va_sld hx hb hX hbH hbA hS (hin _ (by decide)) dL_law_1974 ?_
  refine zlM (As := [.int (xs (i + 1).toNatClampNeg)]) (rest := []) X hml hK hL (ctX10_jumps l D cy (zxm N) μ zu_jm (xs (i + 1).toNatClampNeg) hyV) zmX10_jumps (by decide) m_1455 ⟨Nat.le_of_ble_eq_true rfl, Nat.le_of_ble_eq_true rfl⟩ ⟨by show _ ≤ 603072; omega, by show _ ≤ 7223402; omega⟩ rfl hl.1 rfl (Nat.le_of_ble_eq_true rfl) dL_law_1975 hS (fun H locs hL hS => ?_)
  refine lv_istore (lv' := [(7, .int (r_X10_jumps μ (xs (i + 1).toNatClampNeg))), (6, .int (zkc [1] (k_at σ (xs (i + 1).toNatClampNeg)))), (5, .int i), (4, .ref (N + 379)), (3, .ref (N + 378)), (2, .ref (zxm N 30 0)), (1, .ref N), (0, .ref b)]) hx hb dL_law_1978 hl (by decide) rfl (fun ls hl => ?_)
  refine lv_aload_n hx hb dL_law_1980 rfl (lv_at hl 5 rfl) ?_
  refine zlT (rest := []) X hml hK hL m_1251 ⟨Nat.le_of_ble_eq_true rfl, Nat.le_of_ble_eq_true rfl⟩ ⟨by show _ ≤ 603072; omega, by show _ ≤ 7223402; omega⟩ hl.1 (Nat.le_of_ble_eq_true rfl) dL_law_1981 ?_
  refine lv_iload hx hb dL_law_1984 (lv_at hl 1 rfl) ?_
  refine lv_icmp_eq (tgt := 1991) hx hb dL_law_1986 (by decide) (fun _ => ?_) (fun z => absurd e838 z)
  refine lv_iload hx hb dL_law_1991 (lv_at hl 1 rfl) ?_
  refine lv_if_ne (tgt := 2008) hx hb dL_law_1993 (by decide) (fun _ => ?_) (fun z => ?_)
  · refine lv_goto (tgt := 2283) hx hb dL_law_2008 (by decide) ?_
    exact kk _ _ _ _ _ _ _ _ _ _ _ _ hL sim1 mod1 his1 (Nat.le_succ _) hS (lv_sub hl [2, 3, 4, 5, 6, 7] rfl) (by omega) (by omega)
  · have h0 := zkc_0 (by decide) z
    have hP := eP h0
    refine lv_aload_n hx hb dL_law_1996 rfl (lv_at hl 4 rfl) ?_
    refine lv_iconst (v := 0) hx hb dL_law_1997 (by decide) ?_
    refine zlO X hK hL dL_law_1998 ?_
    refine lv_iload hx hb dL_law_1999 (lv_at hl 0 rfl) ?_
    refine lv_i2l hx hb dL_law_2001 rfl ?_
    refine W.lcmp hx hb dL_law_2002 ?_
    refine lv_if_eq (tgt := 2008) hx hb dL_law_2003 (by decide) (fun _ => ?_) (fun z => absurd ((lg_cmp_eq _ _).mpr ((if_pos h0).trans (congrArg Int32.toInt64 hP.symm))) z)
    refine lv_goto (tgt := 2283) hx hb dL_law_2008 (by decide) ?_
    exact kk _ _ _ _ _ _ _ _ _ _ _ _ hL sim1 mod1 his1 (Nat.le_succ _) hS (lv_sub hl [2, 3, 4, 5, 6, 7] rfl) (by omega) (by omega)
set_option maxRecDepth 100000 in
set_option maxHeartbeats 4000000 in
theorem zcs_27 (C : zlC p l s m c args D cy rf N b L xs H0) (hin : ∀ j : Int32, j = 1 ∨ j = 2 ∨ j = 3 ∨ j = 4 → vp_in (i + j) L) (hL : zLH D cy N σ ρ δ μ w v H) (sim : zsim σ μ τ) (mod : ymod μ τ) (his : zhist δ μ τ) (hN : zn τ 512 < 512) (hS : va_S (zLA N) H0 H locs) (hl : lv_has ls 9 [(5, .int i), (4, .ref (N + 379)), (3, .ref (N + 378)), (2, .ref (zxm N 30 0)), (1, .ref N), (0, .ref b)]) (hcs : cells + 2 ≤ 603072 ∧ slots + 12 ≤ 7223402) (kk : zlK p l e s m args below meth c Q D cy N b i H0 (zn τ 512 + 1) (cells + 2) (slots + 12)) : W p l e room_1 s m args below meth c H locs cells slots Q (F0 m 2011 ls []) := by
  obtain ⟨X, hml, hK, hE, hNc, hX, hbH, hbN, hl0⟩ := id C
  obtain ⟨hx, hb, -, -⟩ := id X
  have hbA : ¬ zLA N b := fun z => absurd hbN (Nat.not_lt.mpr z)
  have hV := sim.V mod
  have hyV := mod.V
  obtain ⟨eF, eP⟩ := rd_sharers sim mod (xs (i + 1).toNatClampNeg)
  obtain ⟨e838, sim1, mod1, his1⟩ := rd_fin eF sim mod his
  refine lv_aload_n hx hb dL_law_2011 rfl (lv_at hl 4 rfl) ?_
  refine lv_aload_n hx hb dL_law_2012 rfl (lv_at hl 5 rfl) ?_
  refine lv_iload hx hb dL_law_2013 (lv_at hl 0 rfl) ?_
  refine lv_iconst (v := 1) hx hb dL_law_2015 (by decide) ?_
  refine lv_iadd hx hb dL_law_2016 ?_
  refine va_sld hx hb hX hbH hbA hS (hin _ (by decide)) dL_law_2017 ?_
  refine lv_aload_n hx hb dL_law_2018 rfl (lv_at hl 2 rfl) ?_
  refine zlW (As := [.ref N, .int (xs (i + 1).toNatClampNeg), .ref (N + 378)]) (rest := []) X hml hK hE hNc hL (ctL_sharers l hl0 D cy rf N (zxb N 0 0) (zxa N) σ (zxd N) δ (N + 378) w zu_ob (xs (i + 1).toNatClampNeg) hV) zmL_sharers (by decide) m_1022 ⟨Nat.le_of_ble_eq_true rfl, Nat.le_of_ble_eq_true rfl⟩ ⟨by show _ ≤ 603072; omega, by show _ ≤ 7223402; omega⟩ rfl hl.1 rfl (Nat.le_of_ble_eq_true rfl) dL_law_2019 hS (fun H locs hL hS => ?_)
  refine lv_istore (lv' := [(6, .int (zkc [1] (k_at σ (xs (i + 1).toNatClampNeg)))), (5, .int i), (4, .ref (N + 379)), (3, .ref (N + 378)), (2, .ref (zxm N 30 0)), (1, .ref N), (0, .ref b)]) hx hb dL_law_2022 hl (by decide) rfl (fun ls hl => ?_)
  refine lv_aload_n hx hb dL_law_2024 rfl (lv_at hl 4 rfl) ?_
  refine lv_aload_n hx hb dL_law_2025 rfl (lv_at hl 6 rfl) ?_
  refine lv_iload hx hb dL_law_2026 (lv_at hl 1 rfl) ?_
  refine lv_iconst (v := 1) hx hb dL_law_2028 (by decide) ?_
  refine lv_iadd hx hb dL_law_2029 ?_
  refine va_sld hx hb hX hbH hbA hS (hin _ (by decide)) dL_law_2030 ?_
  refine zlM (As := [.int (xs (i + 1).toNatClampNeg)]) (rest := []) X hml hK hL (ctX10_sharers l D cy (zxm N) μ zu_jm (xs (i + 1).toNatClampNeg) hyV) zmX10_sharers (by decide) m_1459 ⟨Nat.le_of_ble_eq_true rfl, Nat.le_of_ble_eq_true rfl⟩ ⟨by show _ ≤ 603072; omega, by show _ ≤ 7223402; omega⟩ rfl hl.1 rfl (Nat.le_of_ble_eq_true rfl) dL_law_2031 hS (fun H locs hL hS => ?_)
  refine lv_istore (lv' := [(7, .int (r_X10_sharers μ (xs (i + 1).toNatClampNeg))), (6, .int (zkc [1] (k_at σ (xs (i + 1).toNatClampNeg)))), (5, .int i), (4, .ref (N + 379)), (3, .ref (N + 378)), (2, .ref (zxm N 30 0)), (1, .ref N), (0, .ref b)]) hx hb dL_law_2034 hl (by decide) rfl (fun ls hl => ?_)
  refine lv_aload_n hx hb dL_law_2036 rfl (lv_at hl 5 rfl) ?_
  refine zlT (rest := []) X hml hK hL m_1251 ⟨Nat.le_of_ble_eq_true rfl, Nat.le_of_ble_eq_true rfl⟩ ⟨by show _ ≤ 603072; omega, by show _ ≤ 7223402; omega⟩ hl.1 (Nat.le_of_ble_eq_true rfl) dL_law_2037 ?_
  refine lv_iload hx hb dL_law_2040 (lv_at hl 1 rfl) ?_
  refine lv_icmp_eq (tgt := 2047) hx hb dL_law_2042 (by decide) (fun _ => ?_) (fun z => absurd e838 z)
  refine lv_iload hx hb dL_law_2047 (lv_at hl 1 rfl) ?_
  refine lv_if_ne (tgt := 2064) hx hb dL_law_2049 (by decide) (fun _ => ?_) (fun z => ?_)
  · refine lv_goto (tgt := 2283) hx hb dL_law_2064 (by decide) ?_
    exact kk _ _ _ _ _ _ _ _ _ _ _ _ hL sim1 mod1 his1 (Nat.le_succ _) hS (lv_sub hl [2, 3, 4, 5, 6, 7] rfl) (by omega) (by omega)
  · have h0 := zkc_0 (by decide) z
    have hP := eP h0
    refine lv_aload_n hx hb dL_law_2052 rfl (lv_at hl 4 rfl) ?_
    refine lv_iconst (v := 0) hx hb dL_law_2053 (by decide) ?_
    refine zlO X hK hL dL_law_2054 ?_
    refine lv_iload hx hb dL_law_2055 (lv_at hl 0 rfl) ?_
    refine lv_i2l hx hb dL_law_2057 rfl ?_
    refine W.lcmp hx hb dL_law_2058 ?_
    refine lv_if_eq (tgt := 2064) hx hb dL_law_2059 (by decide) (fun _ => ?_) (fun z => absurd ((lg_cmp_eq _ _).mpr ((if_pos h0).trans (congrArg Int32.toInt64 hP.symm))) z)
    refine lv_goto (tgt := 2283) hx hb dL_law_2064 (by decide) ?_
    exact kk _ _ _ _ _ _ _ _ _ _ _ _ hL sim1 mod1 his1 (Nat.le_succ _) hS (lv_sub hl [2, 3, 4, 5, 6, 7] rfl) (by omega) (by omega)
set_option maxRecDepth 100000 in
set_option maxHeartbeats 4000000 in
theorem zcs_28 (C : zlC p l s m c args D cy rf N b L xs H0) (hin : ∀ j : Int32, j = 1 ∨ j = 2 ∨ j = 3 ∨ j = 4 → vp_in (i + j) L) (hL : zLH D cy N σ ρ δ μ w v H) (sim : zsim σ μ τ) (mod : ymod μ τ) (his : zhist δ μ τ) (hN : zn τ 512 < 512) (hS : va_S (zLA N) H0 H locs) (hl : lv_has ls 9 [(5, .int i), (4, .ref (N + 379)), (3, .ref (N + 378)), (2, .ref (zxm N 30 0)), (1, .ref N), (0, .ref b)]) (hcs : cells + 2 ≤ 603072 ∧ slots + 12 ≤ 7223402) (kk : zlK p l e s m args below meth c Q D cy N b i H0 (zn τ 512 + 1) (cells + 2) (slots + 12)) : W p l e room_1 s m args below meth c H locs cells slots Q (F0 m 2067 ls []) := by
  obtain ⟨X, hml, hK, hE, hNc, hX, hbH, hbN, hl0⟩ := id C
  obtain ⟨hx, hb, -, -⟩ := id X
  have hbA : ¬ zLA N b := fun z => absurd hbN (Nat.not_lt.mpr z)
  have hV := sim.V mod
  have hyV := mod.V
  obtain ⟨eF, eP⟩ := rd_next sim mod
  obtain ⟨e838, sim1, mod1, his1⟩ := rd_fin eF sim mod his
  refine lv_aload_n hx hb dL_law_2067 rfl (lv_at hl 4 rfl) ?_
  refine lv_aload_n hx hb dL_law_2068 rfl (lv_at hl 2 rfl) ?_
  refine zlW (As := [.ref N, .ref (N + 378)]) (rest := []) X hml hK hE hNc hL (ctL_next l hl0 D cy rf N (zxb N 0 0) (zxa N) σ (zxd N) δ (N + 378) w zu_ob hV) zmL_next (by decide) m_1033 ⟨Nat.le_of_ble_eq_true rfl, Nat.le_of_ble_eq_true rfl⟩ ⟨by show _ ≤ 603072; omega, by show _ ≤ 7223402; omega⟩ rfl hl.1 rfl (Nat.le_of_ble_eq_true rfl) dL_law_2069 hS (fun H locs hL hS => ?_)
  refine lv_istore (lv' := [(6, .int (zkc [5] (k_nxr σ))), (5, .int i), (4, .ref (N + 379)), (3, .ref (N + 378)), (2, .ref (zxm N 30 0)), (1, .ref N), (0, .ref b)]) hx hb dL_law_2072 hl (by decide) rfl (fun ls hl => ?_)
  refine lv_aload_n hx hb dL_law_2074 rfl (lv_at hl 4 rfl) ?_
  refine zlM (As := []) (rest := []) X hml hK hL (ctX10_next l D cy (zxm N) μ zu_jm hyV) zmX10_next (by decide) m_1463 ⟨Nat.le_of_ble_eq_true rfl, Nat.le_of_ble_eq_true rfl⟩ ⟨by show _ ≤ 603072; omega, by show _ ≤ 7223402; omega⟩ rfl hl.1 rfl (Nat.le_of_ble_eq_true rfl) dL_law_2075 hS (fun H locs hL hS => ?_)
  refine lv_istore (lv' := [(7, .int (r_X10_next μ)), (6, .int (zkc [5] (k_nxr σ))), (5, .int i), (4, .ref (N + 379)), (3, .ref (N + 378)), (2, .ref (zxm N 30 0)), (1, .ref N), (0, .ref b)]) hx hb dL_law_2078 hl (by decide) rfl (fun ls hl => ?_)
  refine lv_aload_n hx hb dL_law_2080 rfl (lv_at hl 5 rfl) ?_
  refine zlT (rest := []) X hml hK hL m_1251 ⟨Nat.le_of_ble_eq_true rfl, Nat.le_of_ble_eq_true rfl⟩ ⟨by show _ ≤ 603072; omega, by show _ ≤ 7223402; omega⟩ hl.1 (Nat.le_of_ble_eq_true rfl) dL_law_2081 ?_
  refine lv_iload hx hb dL_law_2084 (lv_at hl 1 rfl) ?_
  refine lv_icmp_eq (tgt := 2091) hx hb dL_law_2086 (by decide) (fun _ => ?_) (fun z => absurd e838 z)
  refine lv_iload hx hb dL_law_2091 (lv_at hl 1 rfl) ?_
  refine lv_if_ne (tgt := 2108) hx hb dL_law_2093 (by decide) (fun _ => ?_) (fun z => ?_)
  · refine lv_goto (tgt := 2283) hx hb dL_law_2108 (by decide) ?_
    exact kk _ _ _ _ _ _ _ _ _ _ _ _ hL sim1 mod1 his1 (Nat.le_succ _) hS (lv_sub hl [2, 3, 4, 5, 6, 7] rfl) (by omega) (by omega)
  · have h0 := zkc_0 (by decide) z
    have hP := eP h0
    refine lv_aload_n hx hb dL_law_2096 rfl (lv_at hl 4 rfl) ?_
    refine lv_iconst (v := 0) hx hb dL_law_2097 (by decide) ?_
    refine zlO X hK hL dL_law_2098 ?_
    refine lv_iload hx hb dL_law_2099 (lv_at hl 0 rfl) ?_
    refine lv_i2l hx hb dL_law_2101 rfl ?_
    refine W.lcmp hx hb dL_law_2102 ?_
    refine lv_if_eq (tgt := 2108) hx hb dL_law_2103 (by decide) (fun _ => ?_) (fun z => absurd ((lg_cmp_eq _ _).mpr ((if_pos h0).trans (congrArg Int32.toInt64 hP.symm))) z)
    refine lv_goto (tgt := 2283) hx hb dL_law_2108 (by decide) ?_
    exact kk _ _ _ _ _ _ _ _ _ _ _ _ hL sim1 mod1 his1 (Nat.le_succ _) hS (lv_sub hl [2, 3, 4, 5, 6, 7] rfl) (by omega) (by omega)
end ZCS
