section ZCS
variable {p : Program} {l : Launch} {e : Env} {s : State} {m : MethodId} {args : Array Value} {below : List Frame} {meth : Method} {c : Code} {H : Heap} {locs : List Loc} {cells slots : Nat} {Q : State → Prop} {ls : Array Slot} {D : va_G} {cy : Nat → ClassId} {rf : Nat → Nat} {b L N : Nat} {xs : Nat → Int32} {i : Int32} {H0 : Heap} {σ ρ δ μ τ : zS} {w : Int64} {v : UInt64}

set_option maxRecDepth 100000 in
set_option maxHeartbeats 4000000 in
theorem zcs_6 (C : zlC p l s m c args D cy rf N b L xs H0) (hin : ∀ j : Int32, j = 1 ∨ j = 2 ∨ j = 3 ∨ j = 4 → vp_in (i + j) L) (hL : zLH D cy N σ ρ δ μ w v H) (sim : zsim σ μ τ) (mod : ymod μ τ) (his : zhist δ μ τ) (hN : zn τ 512 < 512) (hS : va_S (zLA N) H0 H locs) (hl : lv_has ls 9 [(5, .int i), (4, .ref (N + 379)), (3, .ref (N + 378)), (2, .ref (zxm N 30 0)), (1, .ref N), (0, .ref b)]) (hcs : cells + 2 ≤ 603072 ∧ slots + 12 ≤ 7223402) (kk : zlK p l e s m args below meth c Q D cy N b i H0 (zn τ 512 + 1) (cells + 2) (slots + 12)) : W p l e room_1 s m args below meth c H locs cells slots Q (F0 m 618 ls []) := by
  obtain ⟨X, hml, hK, hE, hNc, hX, hbH, hbN, hl0⟩ := id C
  obtain ⟨hx, hb, -, -⟩ := id X
  have hbA : ¬ zLA N b := fun z => absurd hbN (Nat.not_lt.mpr z)
  have hV := sim.V mod
  have hyV := mod.V
  have hfull := zl_full his hN
  obtain ⟨e838, eP, τ1, ht1, sim1, mod1, his1⟩ := act_post (za_6 mod hN (xs (i + 1).toNatClampNeg) (xs (i + 2).toNatClampNeg)) sim mod his hN
  refine lv_aload_n hx hb dL_law_618 rfl (lv_at hl 4 rfl) ?_
  refine lv_aload_n hx hb dL_law_619 rfl (lv_at hl 5 rfl) ?_
  refine lv_iload hx hb dL_law_620 (lv_at hl 0 rfl) ?_
  refine lv_iconst (v := 1) hx hb dL_law_622 (by decide) ?_
  refine lv_iadd hx hb dL_law_623 ?_
  refine va_sld hx hb hX hbH hbA hS (hin _ (by decide)) dL_law_624 ?_
  refine lv_aload_n hx hb dL_law_625 rfl (lv_at hl 5 rfl) ?_
  refine lv_iload hx hb dL_law_626 (lv_at hl 0 rfl) ?_
  refine lv_iconst (v := 2) hx hb dL_law_628 (by decide) ?_
  refine lv_iadd hx hb dL_law_629 ?_
  refine va_sld hx hb hX hbH hbA hS (hin _ (by decide)) dL_law_630 ?_
  refine lv_aload_n hx hb dL_law_631 rfl (lv_at hl 2 rfl) ?_
  refine zlW (As := [.ref N, .int (xs (i + 1).toNatClampNeg), .int (xs (i + 2).toNatClampNeg), .ref (N + 378)]) (rest := []) X hml hK hE hNc hL (ctL_step l hl0 D cy rf N (zxb N 0 0) (zxa N) σ (zxd N) δ zu_J (N + 378) w zu_ob (xs (i + 1).toNatClampNeg) (xs (i + 2).toNatClampNeg) hV his.1 hfull) zmL_step (by decide) m_850 ⟨Nat.le_of_ble_eq_true rfl, Nat.le_of_ble_eq_true rfl⟩ ⟨by show _ ≤ 603072; omega, by show _ ≤ 7223402; omega⟩ rfl hl.1 rfl (Nat.le_of_ble_eq_true rfl) dL_law_632 hS (fun H locs hL hS => ?_)
  refine lv_istore (lv' := [(6, .int (zkc [1, 3, 2] (k_ref σ (nI 6) (xs (i + 1).toNatClampNeg) (xs (i + 2).toNatClampNeg) 0 0))), (5, .int i), (4, .ref (N + 379)), (3, .ref (N + 378)), (2, .ref (zxm N 30 0)), (1, .ref N), (0, .ref b)]) hx hb dL_law_635 hl (by decide) rfl (fun ls hl => ?_)
  refine lv_aload_n hx hb dL_law_637 rfl (lv_at hl 4 rfl) ?_
  refine lv_aload_n hx hb dL_law_638 rfl (lv_at hl 6 rfl) ?_
  refine lv_iload hx hb dL_law_639 (lv_at hl 1 rfl) ?_
  refine lv_iconst (v := 1) hx hb dL_law_641 (by decide) ?_
  refine lv_iadd hx hb dL_law_642 ?_
  refine va_sld hx hb hX hbH hbA hS (hin _ (by decide)) dL_law_643 ?_
  refine lv_aload_n hx hb dL_law_644 rfl (lv_at hl 6 rfl) ?_
  refine lv_iload hx hb dL_law_645 (lv_at hl 1 rfl) ?_
  refine lv_iconst (v := 2) hx hb dL_law_647 (by decide) ?_
  refine lv_iadd hx hb dL_law_648 ?_
  refine va_sld hx hb hX hbH hbA hS (hin _ (by decide)) dL_law_649 ?_
  refine zlM (As := [.int (xs (i + 1).toNatClampNeg), .int (xs (i + 2).toNatClampNeg)]) (rest := []) X hml hK hL (ctX10_stepM l D cy (zxm N) μ zu_jm (xs (i + 1).toNatClampNeg) (xs (i + 2).toNatClampNeg) hyV (zl_hD mod (xs (i + 1).toNatClampNeg))) zmX10_step (by decide) m_1306 ⟨Nat.le_of_ble_eq_true rfl, Nat.le_of_ble_eq_true rfl⟩ ⟨by show _ ≤ 603072; omega, by show _ ≤ 7223402; omega⟩ rfl hl.1 rfl (Nat.le_of_ble_eq_true rfl) dL_law_650 hS (fun H locs hL hS => ?_)
  refine lv_istore (lv' := [(7, .int (r_X10_step μ (xs (i + 1).toNatClampNeg) (xs (i + 2).toNatClampNeg))), (6, .int (zkc [1, 3, 2] (k_ref σ (nI 6) (xs (i + 1).toNatClampNeg) (xs (i + 2).toNatClampNeg) 0 0))), (5, .int i), (4, .ref (N + 379)), (3, .ref (N + 378)), (2, .ref (zxm N 30 0)), (1, .ref N), (0, .ref b)]) hx hb dL_law_653 hl (by decide) rfl (fun ls hl => ?_)
  refine lv_aload_n hx hb dL_law_655 rfl (lv_at hl 5 rfl) ?_
  refine zlT (rest := []) X hml hK hL m_1251 ⟨Nat.le_of_ble_eq_true rfl, Nat.le_of_ble_eq_true rfl⟩ ⟨by show _ ≤ 603072; omega, by show _ ≤ 7223402; omega⟩ hl.1 (Nat.le_of_ble_eq_true rfl) dL_law_656 ?_
  refine lv_iload hx hb dL_law_659 (lv_at hl 1 rfl) ?_
  refine lv_icmp_eq (tgt := 666) hx hb dL_law_661 (by decide) (fun _ => ?_) (fun z => absurd e838 z)
  refine lv_iload hx hb dL_law_666 (lv_at hl 1 rfl) ?_
  refine lv_if_ne (tgt := 683) hx hb dL_law_668 (by decide) (fun _ => ?_) (fun z => ?_)
  · refine lv_goto (tgt := 2283) hx hb dL_law_683 (by decide) ?_
    exact kk _ _ _ _ _ _ _ _ _ _ _ _ hL sim1 mod1 his1 ht1 hS (lv_sub hl [2, 3, 4, 5, 6, 7] rfl) (by omega) (by omega)
  · have h0 := zkc_0 (by decide) z
    have hP := eP h0
    refine lv_aload_n hx hb dL_law_671 rfl (lv_at hl 4 rfl) ?_
    refine lv_iconst (v := 0) hx hb dL_law_672 (by decide) ?_
    refine zlO X hK hL dL_law_673 ?_
    refine lv_iload hx hb dL_law_674 (lv_at hl 0 rfl) ?_
    refine lv_i2l hx hb dL_law_676 rfl ?_
    refine W.lcmp hx hb dL_law_677 ?_
    refine lv_if_eq (tgt := 683) hx hb dL_law_678 (by decide) (fun _ => ?_) (fun z => absurd ((lg_cmp_eq _ _).mpr ((if_pos h0).trans (congrArg Int32.toInt64 hP.symm))) z)
    refine lv_goto (tgt := 2283) hx hb dL_law_683 (by decide) ?_
    exact kk _ _ _ _ _ _ _ _ _ _ _ _ hL sim1 mod1 his1 ht1 hS (lv_sub hl [2, 3, 4, 5, 6, 7] rfl) (by omega) (by omega)
set_option maxRecDepth 100000 in
set_option maxHeartbeats 4000000 in
theorem zcs_29 (C : zlC p l s m c args D cy rf N b L xs H0) (hin : ∀ j : Int32, j = 1 ∨ j = 2 ∨ j = 3 ∨ j = 4 → vp_in (i + j) L) (hL : zLH D cy N σ ρ δ μ w v H) (sim : zsim σ μ τ) (mod : ymod μ τ) (his : zhist δ μ τ) (hN : zn τ 512 < 512) (hS : va_S (zLA N) H0 H locs) (hl : lv_has ls 9 [(5, .int i), (4, .ref (N + 379)), (3, .ref (N + 378)), (2, .ref (zxm N 30 0)), (1, .ref N), (0, .ref b)]) (hcs : cells + 2 ≤ 603072 ∧ slots + 12 ≤ 7223402) (kk : zlK p l e s m args below meth c Q D cy N b i H0 (zn τ 512 + 1) (cells + 2) (slots + 12)) : W p l e room_1 s m args below meth c H locs cells slots Q (F0 m 2111 ls []) := by
  obtain ⟨X, hml, hK, hE, hNc, hX, hbH, hbN, hl0⟩ := id C
  obtain ⟨hx, hb, -, -⟩ := id X
  have hbA : ¬ zLA N b := fun z => absurd hbN (Nat.not_lt.mpr z)
  have hV := sim.V mod
  have hyV := mod.V
  obtain ⟨-, sim1, mod1, his1⟩ := rd_fin (F := zpI μ 838 0 0) (x := 0) rfl sim mod his
  refine lv_aload_n hx hb dL_law_2111 rfl (lv_at hl 4 rfl) ?_
  refine zlCx (rest := []) X hml hK hE hL (ctX9_held l hl0 D cy rf N (zxb N 0 0) (zxa N) σ (zxd N) δ hV) zmX9_held (by decide) m_318 ⟨Nat.le_of_ble_eq_true rfl, Nat.le_of_ble_eq_true rfl⟩ ⟨by show _ ≤ 603072; omega, by show _ ≤ 7223402; omega⟩ hl.1 (Nat.le_of_ble_eq_true rfl) dL_law_2112 hS (fun H locs hL hS => ?_)
  refine lv_aload_n hx hb dL_law_2115 rfl (lv_at hl 3 rfl) ?_
  refine zlM (As := []) (rest := [.long (k_held σ)]) X hml hK hL (ctX10_held l D cy (zxm N) μ zu_jm hyV) zmX10_held (by decide) m_1467 ⟨Nat.le_of_ble_eq_true rfl, Nat.le_of_ble_eq_true rfl⟩ ⟨by show _ ≤ 603072; omega, by show _ ≤ 7223402; omega⟩ rfl hl.1 rfl (Nat.le_of_ble_eq_true rfl) dL_law_2116 hS (fun H locs hL hS => ?_)
  refine W.lcmp hx hb dL_law_2119 ?_
  refine lv_if_eq (tgt := 2283) hx hb dL_law_2120 (by decide) (fun _ => ?_) (fun z => absurd ((lg_cmp_eq _ _).mpr (rd_held sim).symm) z)
  exact kk _ _ _ _ _ _ _ _ _ _ _ _ hL sim1 mod1 his1 (Nat.le_succ _) hS (lv_sub hl [0, 1, 2, 3, 4, 5] rfl) (by omega) (by omega)
set_option maxRecDepth 100000 in
set_option maxHeartbeats 4000000 in
theorem zcs_30 (C : zlC p l s m c args D cy rf N b L xs H0) (hin : ∀ j : Int32, j = 1 ∨ j = 2 ∨ j = 3 ∨ j = 4 → vp_in (i + j) L) (hL : zLH D cy N σ ρ δ μ w v H) (sim : zsim σ μ τ) (mod : ymod μ τ) (his : zhist δ μ τ) (hN : zn τ 512 < 512) (hS : va_S (zLA N) H0 H locs) (hl : lv_has ls 9 [(5, .int i), (4, .ref (N + 379)), (3, .ref (N + 378)), (2, .ref (zxm N 30 0)), (1, .ref N), (0, .ref b)]) (hcs : cells + 2 ≤ 603072 ∧ slots + 12 ≤ 7223402) (kk : zlK p l e s m args below meth c Q D cy N b i H0 (zn τ 512 + 1) (cells + 2) (slots + 12)) : W p l e room_1 s m args below meth c H locs cells slots Q (F0 m 2125 ls []) := by
  obtain ⟨X, hml, hK, hE, hNc, hX, hbH, hbN, hl0⟩ := id C
  obtain ⟨hx, hb, -, -⟩ := id X
  have hbA : ¬ zLA N b := fun z => absurd hbN (Nat.not_lt.mpr z)
  have hV := sim.V mod
  have hyV := mod.V
  obtain ⟨-, sim1, mod1, his1⟩ := rd_fin (F := f_X10_kept μ) (x := 0) rfl sim mod his
  refine lv_aload_n hx hb dL_law_2125 rfl (lv_at hl 4 rfl) ?_
  refine zlCx (rest := []) X hml hK hE hL (ctX9_kept l hl0 D cy rf N (zxb N 0 0) (zxa N) σ (zxd N) δ) zmX9_kept (by decide) m_326 ⟨Nat.le_of_ble_eq_true rfl, Nat.le_of_ble_eq_true rfl⟩ ⟨by show _ ≤ 603072; omega, by show _ ≤ 7223402; omega⟩ hl.1 (Nat.le_of_ble_eq_true rfl) dL_law_2126 hS (fun H locs hL hS => ?_)
  refine lv_aload_n hx hb dL_law_2129 rfl (lv_at hl 3 rfl) ?_
  refine zlM (As := []) (rest := [.long (zL σ 511 0)]) X hml hK hL (ctX10_kept l D cy (zxm N) μ zu_jm) zmX10_kept (by decide) m_1471 ⟨Nat.le_of_ble_eq_true rfl, Nat.le_of_ble_eq_true rfl⟩ ⟨by show _ ≤ 603072; omega, by show _ ≤ 7223402; omega⟩ rfl hl.1 rfl (Nat.le_of_ble_eq_true rfl) dL_law_2130 hS (fun H locs hL hS => ?_)
  refine W.lcmp hx hb dL_law_2133 ?_
  refine lv_if_eq (tgt := 2283) hx hb dL_law_2134 (by decide) (fun _ => ?_) (fun z => absurd ((lg_cmp_eq _ _).mpr (rd_kept sim).symm) z)
  exact kk _ _ _ _ _ _ _ _ _ _ _ _ hL sim1 mod1 his1 (Nat.le_succ _) hS (lv_sub hl [0, 1, 2, 3, 4, 5] rfl) (by omega) (by omega)
set_option maxRecDepth 100000 in
set_option maxHeartbeats 4000000 in
theorem zcs_33 (C : zlC p l s m c args D cy rf N b L xs H0) (hin : ∀ j : Int32, j = 1 ∨ j = 2 ∨ j = 3 ∨ j = 4 → vp_in (i + j) L) (hL : zLH D cy N σ ρ δ μ w v H) (sim : zsim σ μ τ) (mod : ymod μ τ) (his : zhist δ μ τ) (hN : zn τ 512 < 512) (hS : va_S (zLA N) H0 H locs) (hl : lv_has ls 9 [(5, .int i), (4, .ref (N + 379)), (3, .ref (N + 378)), (2, .ref (zxm N 30 0)), (1, .ref N), (0, .ref b)]) (hcs : cells + 2 ≤ 603072 ∧ slots + 12 ≤ 7223402) (kk : zlK p l e s m args below meth c Q D cy N b i H0 (zn τ 512 + 1) (cells + 2) (slots + 12)) : W p l e room_1 s m args below meth c H locs cells slots Q (F0 m 2270 ls []) := by
  obtain ⟨X, hml, hK, hE, hNc, hX, hbH, hbN, hl0⟩ := id C
  obtain ⟨hx, hb, -, -⟩ := id X
  have hbA : ¬ zLA N b := fun z => absurd hbN (Nat.not_lt.mpr z)
  have hV := sim.V mod
  have hyV := mod.V
  obtain ⟨-, sim1, mod1, his1⟩ := rd_fin (F := f_X10_isSound μ) (x := 0) rfl sim mod his
  obtain ⟨g1, g2, g3, g4⟩ := id his
  refine lv_aload_n hx hb dL_law_2270 rfl (lv_at hl 4 rfl) ?_
  refine zlS (rest := []) X hml hK hE hL (ctX9_isSound l D cy rf N (zxa N) σ (zxb N) ρ (zxd N) δ zu_jb zu_hd g1 (g4 ρ).1 (fun k hk => ⟨g3 k hk, (g4 ρ).2.1 k hk⟩) (zk_like sim (g4 ρ).2.2 mod) hV) zmX9_isSound (by decide) m_330 ⟨Nat.le_of_ble_eq_true rfl, Nat.le_of_ble_eq_true rfl⟩ ⟨by show _ ≤ 603072; omega, by show _ ≤ 7223402; omega⟩ hl.1 (Nat.le_of_ble_eq_true rfl) dL_law_2271 hS (fun H locs hL hS => ?_)
  refine lv_aload_n hx hb dL_law_2274 rfl (lv_at hl 3 rfl) ?_
  refine zlM (As := []) (rest := [.int (bI true)]) X hml hK hL (ctX10_isSound l D cy (zxm N) μ zu_jm) zmX10_isSound (by decide) m_1483 ⟨Nat.le_of_ble_eq_true rfl, Nat.le_of_ble_eq_true rfl⟩ ⟨by show _ ≤ 603072; omega, by show _ ≤ 7223402; omega⟩ rfl hl.1 rfl (Nat.le_of_ble_eq_true rfl) dL_law_2275 hS (fun H locs hL hS => ?_)
  refine lv_icmp_eq (tgt := 2283) hx hb dL_law_2278 (by decide) (fun _ => ?_) (fun z => absurd (show bI true = bI (r_X10_isSound μ) from rfl) z)
  exact kk _ _ _ _ _ _ _ _ _ _ _ _ hL sim1 mod1 his1 (Nat.le_succ _) hS (lv_sub hl [0, 1, 2, 3, 4, 5] rfl) (by omega) (by omega)
end ZCS
