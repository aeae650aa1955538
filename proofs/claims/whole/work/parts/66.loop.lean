section ZCS
variable {p : Program} {l : Launch} {e : Env} {s : State} {m : MethodId} {args : Array Value} {below : List Frame} {meth : Method} {c : Code} {H : Heap} {locs : List Loc} {cells slots : Nat} {Q : State → Prop} {ls : Array Slot} {D : va_G} {cy : Nat → ClassId} {rf : Nat → Nat} {b L N : Nat} {xs : Nat → Int32} {i : Int32} {H0 : Heap} {σ ρ δ μ τ : zS} {w : Int64} {v : UInt64}

theorem z_and63 (x : Int32) : ∃ k, k < 64 ∧ x &&& 63 = nI k := by
  refine ⟨(x &&& 63).toBitVec.toNat, ?_, ?_⟩
  · have : (x &&& 63).toBitVec = x.toBitVec &&& 63#32 := rfl
    rw [this, BitVec.toNat_and]
    exact Nat.lt_of_le_of_lt Nat.and_le_right (by decide)
  · refine Int32.toBitVec_inj.mp ?_
    show _ = BitVec.ofNat 32 _
    rw [BitVec.ofNat_toNat, BitVec.setWidth_eq]
theorem zlw_in {t j : Nat} {L : Nat} (ht : 5 * t + 5 ≤ L) (hL : L ≤ 2560) (hj : j < 5) : vp_in (nI (5 * t) + nI j) L := by
  rw [nI_add]
  exact vp_in_nI (by omega) (by omega)

set_option maxRecDepth 100000 in
set_option maxHeartbeats 4000000 in
theorem zl_loop (C : zlC p l s m c args D cy rf N b L xs H0) (hL25 : L ≤ 2560) (h31 : (∀ (i : Int32) (H : Heap) (locs : List Loc) (ls : Array Slot) (σ ρ δ μ τ : zS) (w : Int64) (v : UInt64) (cells slots : Nat), (∀ j : Int32, j = 1 ∨ j = 2 ∨ j = 3 ∨ j = 4 → vp_in (i + j) L) → zLH D cy N σ ρ δ μ w v H → zsim σ μ τ → ymod μ τ → zhist δ μ τ → zn τ 512 < 512 → va_S (zLA N) H0 H locs → lv_has ls 9 [(5, .int i), (4, .ref (N + 379)), (3, .ref (N + 378)), (2, .ref (zxm N 30 0)), (1, .ref N), (0, .ref b)] → cells + 2 ≤ 603072 ∧ slots + 12 ≤ 7223402 → zlK p l e s m args below meth c Q D cy N b i H0 (zn τ 512 + 1) (cells + 2) (slots + 12) → W p l e room_1 s m args below meth c H locs cells slots Q (F0 m 2139 ls []))) (h32 : (∀ (i : Int32) (H : Heap) (locs : List Loc) (ls : Array Slot) (σ ρ δ μ τ : zS) (w : Int64) (v : UInt64) (cells slots : Nat), (∀ j : Int32, j = 1 ∨ j = 2 ∨ j = 3 ∨ j = 4 → vp_in (i + j) L) → zLH D cy N σ ρ δ μ w v H → zsim σ μ τ → ymod μ τ → zhist δ μ τ → zn τ 512 < 512 → va_S (zLA N) H0 H locs → lv_has ls 9 [(5, .int i), (4, .ref (N + 379)), (3, .ref (N + 378)), (2, .ref (zxm N 30 0)), (1, .ref N), (0, .ref b)] → cells + 2 ≤ 603072 ∧ slots + 12 ≤ 7223402 → zlK p l e s m args below meth c Q D cy N b i H0 (zn τ 512 + 1) (cells + 2) (slots + 12) → W p l e room_1 s m args below meth c H locs cells slots Q (F0 m 2205 ls []))) (kx : ∀ (H : Heap) (locs : List Loc) (ls : Array Slot) (cells slots : Nat), va_S (zLA N) H0 H locs → cells ≤ 1424 → slots ≤ 15144 → W p l e room_1 s m args below meth c H locs cells slots Q (F0 m 2289 ls [])) : ∀ (r t : Nat), t + r = 512 → ∀ (H : Heap) (locs : List Loc) (ls : Array Slot) (σ ρ δ μ τ : zS) (w : Int64) (v : UInt64) (cells slots : Nat), zLH D cy N σ ρ δ μ w v H → zsim σ μ τ → ymod μ τ → zhist δ μ τ → zn τ 512 ≤ t → va_S (zLA N) H0 H locs → lv_has ls 9 [(5, .int (nI (5 * t))), (4, .ref (N + 379)), (3, .ref (N + 378)), (2, .ref (zxm N 30 0)), (1, .ref N), (0, .ref b)] → cells ≤ 400 + 2 * t → slots ≤ 9000 + 12 * t → W p l e room_1 s m args below meth c H locs cells slots Q (F0 m 28 ls []) := by
  obtain ⟨X, hml, hK, hE, hNc, hX, hbH, hbN, hl0⟩ := id C
  obtain ⟨hx, hb, -, -⟩ := id X
  have hbA : ¬ zLA N b := fun z => absurd hbN (Nat.not_lt.mpr z)
  intro r
  induction r with
  | zero =>
    intro t ht H locs ls σ ρ δ μ τ w v cells slots hL sim mod his hn hS hl hc1 hs1
    refine lv_iload hx hb dL_law_28 (lv_at hl 0 rfl) ?_
    refine lv_aload_n hx hb dL_law_30 rfl (lv_at hl 5 rfl) ?_
    refine va_slen hx hb hX hbH hbA hS dL_law_31 ?_
    refine lv_iconst (v := 5) hx hb dL_law_32 (by decide) ?_
    refine lv_isub hx hb dL_law_33 ?_
    have eL : (Int32.ofNat L - 5).toInt = (L : Int) - 5 := nI_subI (a := L) (b := 5) (by omega) (by decide)
    have eT : (nI (5 * t)).toInt = ((5 * t : Nat) : Int) := nI_toInt (by omega)
    refine lv_icmp_gt (tgt := 2289) hx hb dL_law_34 (by decide) (fun _ => kx H locs ls cells slots hS (by omega) (by omega)) (fun z => ?_)
    rw [Int32.lt_iff_toInt_lt, eL, eT] at z
    omega
  | succ r ih =>
    intro t ht H locs ls σ ρ δ μ τ w v cells slots hL sim mod his hn hS hl hc1 hs1
    refine lv_iload hx hb dL_law_28 (lv_at hl 0 rfl) ?_
    refine lv_aload_n hx hb dL_law_30 rfl (lv_at hl 5 rfl) ?_
    refine va_slen hx hb hX hbH hbA hS dL_law_31 ?_
    refine lv_iconst (v := 5) hx hb dL_law_32 (by decide) ?_
    refine lv_isub hx hb dL_law_33 ?_
    have eL : (Int32.ofNat L - 5).toInt = (L : Int) - 5 := nI_subI (a := L) (b := 5) (by omega) (by decide)
    have eT : (nI (5 * t)).toInt = ((5 * t : Nat) : Int) := nI_toInt (by omega)
    refine lv_icmp_gt (tgt := 2289) hx hb dL_law_34 (by decide) (fun _ => kx H locs ls cells slots hS (by omega) (by omega)) (fun z => ?_)
    rw [Int32.lt_iff_toInt_lt, eL, eT] at z
    have hT : 5 * t + 5 ≤ L := by omega
    have hN : zn τ 512 < 512 := by omega
    have hin : ∀ j : Int32, j = 1 ∨ j = 2 ∨ j = 3 ∨ j = 4 → vp_in (nI (5 * t) + j) L := fun j hj => by
      rcases hj with rfl | rfl | rfl | rfl
      · exact zlw_in (j := 1) hT hL25 (by decide)
      · exact zlw_in (j := 2) hT hL25 (by decide)
      · exact zlw_in (j := 3) hT hL25 (by decide)
      · exact zlw_in (j := 4) hT hL25 (by decide)
    have hcs : cells + 2 ≤ 603072 ∧ slots + 12 ≤ 7223402 := ⟨by omega, by omega⟩
    have kk : zlK p l e s m args below meth c Q D cy N b (nI (5 * t)) H0 (zn τ 512 + 1) (cells + 2) (slots + 12) := by
      intro H1 locs1 ls1 σ1 ρ1 δ1 μ1 τ1 w1 v1 cells1 slots1 hL1 sim1 mod1 his1 hn1 hS1 hl1 hc2 hs2
      refine lv_iinc (v := nI (5 * (t + 1))) (lv' := [(5, .int (nI (5 * (t + 1)))), (4, .ref (N + 379)), (3, .ref (N + 378)), (2, .ref (zxm N 30 0)), (1, .ref N), (0, .ref b)]) hx hb dL_law_2283 hl1 (k := 0) rfl (show nI (5 * t) + 5 = nI (5 * (t + 1)) from by rw [show (5 : Int32) = nI 5 from rfl, nI_add]; exact congrArg nI (by omega)) (by decide) rfl (fun ls hl => ?_)
      refine lv_goto (tgt := 28) hx hb dL_law_2286 (by decide) ?_
      exact ih (t + 1) (by omega) H1 locs1 ls σ1 ρ1 δ1 μ1 τ1 w1 v1 cells1 slots1 hL1 sim1 mod1 his1 (by omega) hS1 hl (by omega) (by omega)
    refine lv_aload_n hx hb dL_law_37 rfl (lv_at hl 5 rfl) ?_
    refine lv_iload hx hb dL_law_38 (lv_at hl 0 rfl) ?_
    refine va_sld hx hb hX hbH hbA hS (vp_in_nI (by omega) (by omega)) dL_law_40 ?_
    refine lv_bipush (v := 63) hx hb dL_law_41 (by decide) ?_
    refine lv_iand hx hb dL_law_43 ?_
    obtain ⟨k, hk, ek⟩ := z_and63 (xs (nI (5 * t)).toNatClampNeg)
    rw [ek]
    rcases (show k = 0 ∨ k = 1 ∨ k = 2 ∨ k = 3 ∨ k = 4 ∨ k = 5 ∨ k = 6 ∨ k = 7 ∨ k = 8 ∨ k = 9 ∨ k = 10 ∨ k = 11 ∨ k = 12 ∨ k = 13 ∨ k = 14 ∨ k = 15 ∨ k = 16 ∨ k = 17 ∨ k = 18 ∨ k = 19 ∨ k = 20 ∨ k = 21 ∨ k = 22 ∨ k = 23 ∨ k = 24 ∨ k = 25 ∨ k = 26 ∨ k = 27 ∨ k = 28 ∨ k = 29 ∨ k = 30 ∨ k = 31 ∨ k = 32 ∨ k = 33 ∨ 34 ≤ k by omega) with rfl | rfl | rfl | rfl | rfl | rfl | rfl | rfl | rfl | rfl | rfl | rfl | rfl | rfl | rfl | rfl | rfl | rfl | rfl | rfl | rfl | rfl | rfl | rfl | rfl | rfl | rfl | rfl | rfl | rfl | rfl | rfl | rfl | rfl | h34
    · refine lv_tableIn (off := 152) (tgt := 196) hx hb dL_law_44 (by decide) (by decide) rfl (by decide) ?_
      exact zcs_0 C hin hL sim mod his hN hS hl hcs kk
    · refine lv_tableIn (off := 220) (tgt := 264) hx hb dL_law_44 (by decide) (by decide) rfl (by decide) ?_
      exact zcs_1 C hin hL sim mod his hN hS hl hcs kk
    · refine lv_tableIn (off := 300) (tgt := 344) hx hb dL_law_44 (by decide) (by decide) rfl (by decide) ?_
      exact zcs_2 C hin hL sim mod his hN hS hl hcs kk
    · refine lv_tableIn (off := 394) (tgt := 438) hx hb dL_law_44 (by decide) (by decide) rfl (by decide) ?_
      exact zcs_3 C hin hL sim mod his hN hS hl hcs kk
    · refine lv_tableIn (off := 450) (tgt := 494) hx hb dL_law_44 (by decide) (by decide) rfl (by decide) ?_
      exact zcs_4 C hin hL sim mod his hN hS hl hcs kk
    · refine lv_tableIn (off := 506) (tgt := 550) hx hb dL_law_44 (by decide) (by decide) rfl (by decide) ?_
      exact zcs_5 C hin hL sim mod his hN hS hl hcs kk
    · refine lv_tableIn (off := 574) (tgt := 618) hx hb dL_law_44 (by decide) (by decide) rfl (by decide) ?_
      exact zcs_6 C hin hL sim mod his hN hS hl hcs kk
    · refine lv_tableIn (off := 642) (tgt := 686) hx hb dL_law_44 (by decide) (by decide) rfl (by decide) ?_
      exact zcs_7 C hin hL sim mod his hN hS hl hcs kk
    · refine lv_tableIn (off := 698) (tgt := 742) hx hb dL_law_44 (by decide) (by decide) rfl (by decide) ?_
      exact zcs_8 C hin hL sim mod his hN hS hl hcs kk
    · refine lv_tableIn (off := 742) (tgt := 786) hx hb dL_law_44 (by decide) (by decide) rfl (by decide) ?_
      exact zcs_9 C hin hL sim mod his hN hS hl hcs kk
    · refine lv_tableIn (off := 822) (tgt := 866) hx hb dL_law_44 (by decide) (by decide) rfl (by decide) ?_
      exact zcs_10 C hin hL sim mod his hN hS hl hcs kk
    · refine lv_tableIn (off := 878) (tgt := 922) hx hb dL_law_44 (by decide) (by decide) rfl (by decide) ?_
      exact zcs_11 C hin hL sim mod his hN hS hl hcs kk
    · refine lv_tableIn (off := 946) (tgt := 990) hx hb dL_law_44 (by decide) (by decide) rfl (by decide) ?_
      exact zcs_12 C hin hL sim mod his hN hS hl hcs kk
    · refine lv_tableIn (off := 1002) (tgt := 1046) hx hb dL_law_44 (by decide) (by decide) rfl (by decide) ?_
      exact zcs_13 C hin hL sim mod his hN hS hl hcs kk
    · refine lv_tableIn (off := 1058) (tgt := 1102) hx hb dL_law_44 (by decide) (by decide) rfl (by decide) ?_
      exact zcs_14 C hin hL sim mod his hN hS hl hcs kk
    · refine lv_tableIn (off := 1128) (tgt := 1172) hx hb dL_law_44 (by decide) (by decide) rfl (by decide) ?_
      exact zcs_15 C hin hL sim mod his hN hS hl hcs kk
    · refine lv_tableIn (off := 1191) (tgt := 1235) hx hb dL_law_44 (by decide) (by decide) rfl (by decide) ?_
      exact zcs_16 C hin hL sim mod his hN hS hl hcs kk
    · refine lv_tableIn (off := 1247) (tgt := 1291) hx hb dL_law_44 (by decide) (by decide) rfl (by decide) ?_
      exact zcs_17 C hin hL sim mod his hN hS hl hcs kk
    · refine lv_tableIn (off := 1315) (tgt := 1359) hx hb dL_law_44 (by decide) (by decide) rfl (by decide) ?_
      exact zcs_18 C hin hL sim mod his hN hS hl hcs kk
    · refine lv_tableIn (off := 1399) (tgt := 1443) hx hb dL_law_44 (by decide) (by decide) rfl (by decide) ?_
      exact zcs_19 C hin hL sim mod his hN hS hl hcs kk
    · refine lv_tableIn (off := 1479) (tgt := 1523) hx hb dL_law_44 (by decide) (by decide) rfl (by decide) ?_
      exact zcs_20 C hin hL sim mod his hN hS hl hcs kk
    · refine lv_tableIn (off := 1591) (tgt := 1635) hx hb dL_law_44 (by decide) (by decide) rfl (by decide) ?_
      exact zcs_21 C hin hL sim mod his hN hS hl hcs kk
    · refine lv_tableIn (off := 1647) (tgt := 1691) hx hb dL_law_44 (by decide) (by decide) rfl (by decide) ?_
      exact zcs_22 C hin hL sim mod his hN hS hl hcs kk
    · refine lv_tableIn (off := 1710) (tgt := 1754) hx hb dL_law_44 (by decide) (by decide) rfl (by decide) ?_
      exact zcs_23 C hin hL sim mod his hN hS hl hcs kk
    · refine lv_tableIn (off := 1773) (tgt := 1817) hx hb dL_law_44 (by decide) (by decide) rfl (by decide) ?_
      exact zcs_24 C hin hL sim mod his hN hS hl hcs kk
    · refine lv_tableIn (off := 1829) (tgt := 1873) hx hb dL_law_44 (by decide) (by decide) rfl (by decide) ?_
      exact zcs_25 C hin hL sim mod his hN hS hl hcs kk
    · refine lv_tableIn (off := 1911) (tgt := 1955) hx hb dL_law_44 (by decide) (by decide) rfl (by decide) ?_
      exact zcs_26 C hin hL sim mod his hN hS hl hcs kk
    · refine lv_tableIn (off := 1967) (tgt := 2011) hx hb dL_law_44 (by decide) (by decide) rfl (by decide) ?_
      exact zcs_27 C hin hL sim mod his hN hS hl hcs kk
    · refine lv_tableIn (off := 2023) (tgt := 2067) hx hb dL_law_44 (by decide) (by decide) rfl (by decide) ?_
      exact zcs_28 C hin hL sim mod his hN hS hl hcs kk
    · refine lv_tableIn (off := 2067) (tgt := 2111) hx hb dL_law_44 (by decide) (by decide) rfl (by decide) ?_
      exact zcs_29 C hin hL sim mod his hN hS hl hcs kk
    · refine lv_tableIn (off := 2081) (tgt := 2125) hx hb dL_law_44 (by decide) (by decide) rfl (by decide) ?_
      exact zcs_30 C hin hL sim mod his hN hS hl hcs kk
    · refine lv_tableIn (off := 2095) (tgt := 2139) hx hb dL_law_44 (by decide) (by decide) rfl (by decide) ?_
      exact h31 _ H locs ls σ ρ δ μ τ w v cells slots hin hL sim mod his hN hS hl hcs kk
    · refine lv_tableIn (off := 2161) (tgt := 2205) hx hb dL_law_44 (by decide) (by decide) rfl (by decide) ?_
      exact h32 _ H locs ls σ ρ δ μ τ w v cells slots hin hL sim mod his hN hS hl hcs kk
    · refine lv_tableIn (off := 2226) (tgt := 2270) hx hb dL_law_44 (by decide) (by decide) rfl (by decide) ?_
      exact zcs_33 C hin hL sim mod his hN hS hl hcs kk
    · refine lv_tableOut (tgt := 2283) hx hb dL_law_44 (Or.inr (by rw [nI_toInt (by omega)]; omega)) (by decide) ?_
      exact kk H locs ls σ ρ δ μ τ w v cells slots hL sim mod his (by omega) hS hl (by omega) (by omega)
end ZCS
