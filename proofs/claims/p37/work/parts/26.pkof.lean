theorem k_pkr_at {σ : zS} {x j w : Int32} (h : k_at σ x ≠ 0) : k_pkr σ x j w = k_at σ x := by
  have g : ¬ k_has σ 506 x = true := fun g => h (by rw [k_at, if_pos g])
  rw [k_pkr, if_neg g, k_at, if_neg g]
theorem k_pkr_1 {σ : zS} {x j w : Int32} (h : k_at σ x = 0) (hj : j < 0 ∨ zI σ 109 x.toNatClampNeg ≤ j) : k_pkr σ x j w = 1 := by
  rw [k_pkr, if_pos (k_at_0 h), if_pos hj]
theorem k_pkr_0 {σ : zS} {x j w : Int32} (h : k_at σ x = 0) (hj : ¬ (j < 0 ∨ zI σ 109 x.toNatClampNeg ≤ j)) (hw : w = 104 ∨ w = 100 ∨ (48 ≤ w ∧ w ≤ 52)) : k_pkr σ x j w = 0 := by
  rw [k_pkr, if_pos (k_at_0 h), if_neg hj, if_pos hw]
theorem k_pkr_2 {σ : zS} {x j w : Int32} (h : k_at σ x = 0) (hj : ¬ (j < 0 ∨ zI σ 109 x.toNatClampNeg ≤ j)) (hw : ¬ (w = 104 ∨ w = 100 ∨ (48 ≤ w ∧ w ≤ 52))) : k_pkr σ x j w = 2 := by
  rw [k_pkr, if_pos (k_at_0 h), if_neg hj, if_neg hw]
theorem zmX9_packingOf : zmV yX9_packingOf RX9 cX9_packingOf 5 (some .int) 3 := ⟨m_1120, m_1121, m_1, m_1122, rfl, by decide, by decide, by decide +kernel⟩
set_option maxRecDepth 100000 in
set_option maxHeartbeats 4000000 in
theorem ctX9_packingOf (l : Launch) (hl0 : l.stackTraces = false) (D : va_G) (cy : Nat → ClassId) (rf : Nat → Nat) (sb ag : Nat) (ad : Nat → Nat → Nat) (σ : zS) (adD : Nat → Nat → Nat) (δ : zS) (x : Int32) (j : Int32) (w : Int32) (hV : zV σ) : vx_Met l yX9_packingOf (zw yX9_packingOf cX9_packingOf 5 (some .int)) (zrx 7 2 12) (va_Pc [.ref sb, .int x, .int j, .int w] (zBE D cy rf (zSA D cy sb ag ad σ adD δ))) (zxQ (k_pkr σ x j w) (some (.int (k_look σ x j w))) (zSA D cy sb ag ad σ adD δ) (fun _ => False)) (zxC (k_pkr σ x j w)) 2 12 (fun _ => False) := by
  refine zmetX (by decide) rfl (Nat.le_of_ble_eq_true rfl) rfl (fun p e s m below meth c ls X hml hr hlocks hex hv hl => ?_)
  obtain ⟨hK, hE, hO, hW, hWD⟩ := hv
  obtain ⟨hx, hb, -, -⟩ := id X
  have hl : lv_has ls 5 [(0, .ref sb), (1, .int x), (2, .int j), (3, .int w)] := hl
  refine lv_aload_n hx hb dX9_packingOf_0 rfl (lv_at hl 0 rfl) ?_
  refine lv_iload_n hx hb dX9_packingOf_1 rfl (lv_at hl 1 rfl) ?_
  refine zcallXV (As := [.int x]) (rest := []) X hml hK hE ⟨hO, hW, hWD⟩ (ctX9_canopyAt l hl0 D cy rf sb ag ad σ adD δ x hV) zmX9_canopyAt (by decide) m_837 (zrecv hK hO rfl) ⟨(Nat.le_of_ble_eq_true rfl), (Nat.le_of_ble_eq_true rfl)⟩ ⟨(Nat.le_of_ble_eq_true rfl), (Nat.le_of_ble_eq_true rfl)⟩ rfl hl.1 rfl (Nat.le_of_ble_eq_true rfl) dX9_packingOf_2 va_S.rf (fun _ h => h) (fun h => k_pkr_at h) hex hlocks (fun _ _ => rfl) (Nat.le_of_ble_eq_true rfl) (Nat.le_of_ble_eq_true rfl) (fun h0 H locs hG9 hsz hfr hS => ?_)
  obtain ⟨hO, hW, hWD⟩ := hG9
  have hin := zhas_in hV.2.1 (by decide) (k_at_0 h0)
  refine lv_astore (lv' := [(4, .ref (ad 11 x.toNatClampNeg)), (0, .ref sb), (1, .int x), (2, .int j), (3, .int w)]) hx hb dX9_packingOf_5 hl (by decide) rfl (fun ls hl => ?_)
  refine lv_iload_n hx hb dX9_packingOf_7 rfl (lv_at hl 3 rfl) ?_
  refine lv_if_lt (tgt := 20) hx hb dX9_packingOf_8 (by decide) (fun b1 => ?_) (fun b1 => ?_)
  · have hrr : k_pkr σ x j w = 1 := (k_pkr_1 h0 (Or.inl b1))
    exact zthS (cls := zxc 1) (text := "no such packing") X hl0 hE hS (fun q h => hS.2.1 q h (fun z => z)) zfit_1 m_662 m_15 zat_1 (by simp [zstr]) hml hl.1 dX9_packingOf_20 dX9_packingOf_23 dX9_packingOf_24 dX9_packingOf_26 dX9_packingOf_29 hex hlocks ⟨Nat.le_of_ble_eq_true rfl, Nat.le_of_ble_eq_true rfl⟩ (Nat.le_of_ble_eq_true rfl) ⟨Nat.le_of_ble_eq_true rfl, Nat.le_of_ble_eq_true rfl⟩ (Nat.le_of_ble_eq_true rfl) (Nat.le_of_ble_eq_true rfl) (by rw [hrr]; decide) (by rw [hrr])
  · refine lv_iload_n hx hb dX9_packingOf_11 rfl (lv_at hl 3 rfl) ?_
    refine lv_aload hx hb dX9_packingOf_12 (lv_at hl 0 rfl) ?_
    refine zg1_9 X hK hW (zvin hin) m_119 dX9_packingOf_14 ?_
    refine lv_icmp_lt (tgt := 30) hx hb dX9_packingOf_17 (by decide) (fun b2 => ?_) (fun b2 => ?_)
    · refine lv_iload_n hx hb dX9_packingOf_30 rfl (lv_at hl 4 rfl) ?_
      refine lv_bipush (v := 104) hx hb dX9_packingOf_31 (by decide) ?_
      refine lv_icmp_eq (tgt := 64) hx hb dX9_packingOf_33 (by decide) (fun b3 => ?_) (fun b3 => ?_)
      · refine lv_aload_n hx hb dX9_packingOf_64 rfl (lv_at hl 1 rfl) ?_
        refine zg7_0 X hK hO m_311 dX9_packingOf_65 ?_
        refine zg5_4 X hK hW m_254 dX9_packingOf_68 ?_
        refine lv_iload_n hx hb dX9_packingOf_71 rfl (lv_at hl 2 rfl) ?_
        refine lv_iload_n hx hb dX9_packingOf_72 rfl (lv_at hl 3 rfl) ?_
        refine lv_iload_n hx hb dX9_packingOf_73 rfl (lv_at hl 4 rfl) ?_
        refine zcallRV (As := [.int x, .int j, .int w]) (rest := []) X hml hK hW (ctX0_lookUp l D cy ad σ x j w hV.2.2.2.2.1) zmX0_lookUp (by decide) m_1125 (zrecv hK (hW 5 0 rfl (by decide)) rfl) ⟨Nat.le_of_ble_eq_true rfl, Nat.le_of_ble_eq_true rfl⟩ ⟨Nat.le_of_ble_eq_true rfl, Nat.le_of_ble_eq_true rfl⟩ rfl hl.1 rfl (Nat.le_of_ble_eq_true rfl) dX9_packingOf_74 ?_
        exact zx_i hx hb hr hlocks (show k_pkr σ x j w = 0 from (k_pkr_0 h0 (fun z => z.elim b1 (fun z => absurd b2 (Int32.not_lt.mpr z))) (by simp [b1, Int32.not_lt.mp b1, b2, Int32.not_le.mpr b2, b3]))) rfl ⟨hO, hW, hWD⟩ hS (Nat.le_of_ble_eq_true rfl) (Nat.le_of_ble_eq_true rfl) dX9_packingOf_77
      · refine lv_iload_n hx hb dX9_packingOf_36 rfl (lv_at hl 4 rfl) ?_
        refine lv_bipush (v := 100) hx hb dX9_packingOf_37 (by decide) ?_
        refine lv_icmp_eq (tgt := 64) hx hb dX9_packingOf_39 (by decide) (fun b4 => ?_) (fun b4 => ?_)
        · refine lv_aload_n hx hb dX9_packingOf_64 rfl (lv_at hl 1 rfl) ?_
          refine zg7_0 X hK hO m_311 dX9_packingOf_65 ?_
          refine zg5_4 X hK hW m_254 dX9_packingOf_68 ?_
          refine lv_iload_n hx hb dX9_packingOf_71 rfl (lv_at hl 2 rfl) ?_
          refine lv_iload_n hx hb dX9_packingOf_72 rfl (lv_at hl 3 rfl) ?_
          refine lv_iload_n hx hb dX9_packingOf_73 rfl (lv_at hl 4 rfl) ?_
          refine zcallRV (As := [.int x, .int j, .int w]) (rest := []) X hml hK hW (ctX0_lookUp l D cy ad σ x j w hV.2.2.2.2.1) zmX0_lookUp (by decide) m_1125 (zrecv hK (hW 5 0 rfl (by decide)) rfl) ⟨Nat.le_of_ble_eq_true rfl, Nat.le_of_ble_eq_true rfl⟩ ⟨Nat.le_of_ble_eq_true rfl, Nat.le_of_ble_eq_true rfl⟩ rfl hl.1 rfl (Nat.le_of_ble_eq_true rfl) dX9_packingOf_74 ?_
          exact zx_i hx hb hr hlocks (show k_pkr σ x j w = 0 from (k_pkr_0 h0 (fun z => z.elim b1 (fun z => absurd b2 (Int32.not_lt.mpr z))) (by simp [b1, Int32.not_lt.mp b1, b2, Int32.not_le.mpr b2, b3, Ne.symm b3, b4]))) rfl ⟨hO, hW, hWD⟩ hS (Nat.le_of_ble_eq_true rfl) (Nat.le_of_ble_eq_true rfl) dX9_packingOf_77
        · refine lv_iload_n hx hb dX9_packingOf_42 rfl (lv_at hl 4 rfl) ?_
          refine lv_bipush (v := 48) hx hb dX9_packingOf_43 (by decide) ?_
          refine lv_icmp_lt (tgt := 54) hx hb dX9_packingOf_45 (by decide) (fun b5 => ?_) (fun b5 => ?_)
          · have hrr : k_pkr σ x j w = 2 := (k_pkr_2 h0 (fun z => z.elim b1 (fun z => absurd b2 (Int32.not_lt.mpr z))) (by simp [b1, Int32.not_lt.mp b1, b2, Int32.not_le.mpr b2, b3, Ne.symm b3, b4, Ne.symm b4, b5, Int32.not_le.mpr b5]))
            exact zthS (cls := zxc 2) (text := "no such thing of a packing") X hl0 hE hS (fun q h => hS.2.1 q h (fun z => z)) zfit_2 m_735 m_16 zat_2 (by simp [zstr]) hml hl.1 dX9_packingOf_54 dX9_packingOf_57 dX9_packingOf_58 dX9_packingOf_60 dX9_packingOf_63 hex hlocks ⟨Nat.le_of_ble_eq_true rfl, Nat.le_of_ble_eq_true rfl⟩ (Nat.le_of_ble_eq_true rfl) ⟨Nat.le_of_ble_eq_true rfl, Nat.le_of_ble_eq_true rfl⟩ (Nat.le_of_ble_eq_true rfl) (Nat.le_of_ble_eq_true rfl) (by rw [hrr]; decide) (by rw [hrr])
          · refine lv_iload_n hx hb dX9_packingOf_48 rfl (lv_at hl 4 rfl) ?_
            refine lv_bipush (v := 52) hx hb dX9_packingOf_49 (by decide) ?_
            refine lv_icmp_le (tgt := 64) hx hb dX9_packingOf_51 (by decide) (fun b6 => ?_) (fun b6 => ?_)
            · refine lv_aload_n hx hb dX9_packingOf_64 rfl (lv_at hl 1 rfl) ?_
              refine zg7_0 X hK hO m_311 dX9_packingOf_65 ?_
              refine zg5_4 X hK hW m_254 dX9_packingOf_68 ?_
              refine lv_iload_n hx hb dX9_packingOf_71 rfl (lv_at hl 2 rfl) ?_
              refine lv_iload_n hx hb dX9_packingOf_72 rfl (lv_at hl 3 rfl) ?_
              refine lv_iload_n hx hb dX9_packingOf_73 rfl (lv_at hl 4 rfl) ?_
              refine zcallRV (As := [.int x, .int j, .int w]) (rest := []) X hml hK hW (ctX0_lookUp l D cy ad σ x j w hV.2.2.2.2.1) zmX0_lookUp (by decide) m_1125 (zrecv hK (hW 5 0 rfl (by decide)) rfl) ⟨Nat.le_of_ble_eq_true rfl, Nat.le_of_ble_eq_true rfl⟩ ⟨Nat.le_of_ble_eq_true rfl, Nat.le_of_ble_eq_true rfl⟩ rfl hl.1 rfl (Nat.le_of_ble_eq_true rfl) dX9_packingOf_74 ?_
              exact zx_i hx hb hr hlocks (show k_pkr σ x j w = 0 from (k_pkr_0 h0 (fun z => z.elim b1 (fun z => absurd b2 (Int32.not_lt.mpr z))) (by simp [b1, Int32.not_lt.mp b1, b2, Int32.not_le.mpr b2, b3, Ne.symm b3, b4, Ne.symm b4, b5, Int32.not_lt.mp b5, b6, Int32.not_lt.mpr b6]))) rfl ⟨hO, hW, hWD⟩ hS (Nat.le_of_ble_eq_true rfl) (Nat.le_of_ble_eq_true rfl) dX9_packingOf_77
            · have hrr : k_pkr σ x j w = 2 := (k_pkr_2 h0 (fun z => z.elim b1 (fun z => absurd b2 (Int32.not_lt.mpr z))) (by simp [b1, Int32.not_lt.mp b1, b2, Int32.not_le.mpr b2, b3, Ne.symm b3, b4, Ne.symm b4, b5, Int32.not_lt.mp b5, b6, Int32.not_le.mp b6]))
              exact zthS (cls := zxc 2) (text := "no such thing of a packing") X hl0 hE hS (fun q h => hS.2.1 q h (fun z => z)) zfit_2 m_735 m_16 zat_2 (by simp [zstr]) hml hl.1 dX9_packingOf_54 dX9_packingOf_57 dX9_packingOf_58 dX9_packingOf_60 dX9_packingOf_63 hex hlocks ⟨Nat.le_of_ble_eq_true rfl, Nat.le_of_ble_eq_true rfl⟩ (Nat.le_of_ble_eq_true rfl) ⟨Nat.le_of_ble_eq_true rfl, Nat.le_of_ble_eq_true rfl⟩ (Nat.le_of_ble_eq_true rfl) (Nat.le_of_ble_eq_true rfl) (by rw [hrr]; decide) (by rw [hrr])
    · have hrr : k_pkr σ x j w = 1 := (k_pkr_1 h0 (Or.inr (Int32.not_lt.mp b2)))
      exact zthS (cls := zxc 1) (text := "no such packing") X hl0 hE hS (fun q h => hS.2.1 q h (fun z => z)) zfit_1 m_662 m_15 zat_1 (by simp [zstr]) hml hl.1 dX9_packingOf_20 dX9_packingOf_23 dX9_packingOf_24 dX9_packingOf_26 dX9_packingOf_29 hex hlocks ⟨Nat.le_of_ble_eq_true rfl, Nat.le_of_ble_eq_true rfl⟩ (Nat.le_of_ble_eq_true rfl) ⟨Nat.le_of_ble_eq_true rfl, Nat.le_of_ble_eq_true rfl⟩ (Nat.le_of_ble_eq_true rfl) (Nat.le_of_ble_eq_true rfl) (by rw [hrr]; decide) (by rw [hrr])
