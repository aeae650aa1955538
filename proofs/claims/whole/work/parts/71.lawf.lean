theorem zr_none (σ : zS) : k_none σ = 0 ∨ k_none σ = 6 := by unfold k_none; split <;> simp
theorem zmL_groundedShare : zmW yL_groundedShare RL cL_groundedShare 3 (some .int) [(0, 8, 11, 121)] 2 := ⟨m_1062, m_0, m_1063, rfl, by decide, by decide, by decide +kernel⟩
set_option maxRecDepth 100000 in
set_option maxHeartbeats 4000000 in
theorem ctL_groundedShare (l : Launch) (hl0 : l.stackTraces = false) (D : va_G) (cy : Nat → ClassId) (rf : Nat → Nat) (sb ag : Nat) (ad : Nat → Nat → Nat) (σ : zS) (adD : Nat → Nat → Nat) (δ : zS) (ob : Nat) (w0 : UInt64) (hob : ¬ zRA ad adD ob ∧ ob ≠ sb) (hV : zV σ) : Met l yL_groundedShare (zww yL_groundedShare cL_groundedShare 3 (some .int) [(0, 8, 11, 121)]) (zrx 9 1 6) (va_Pc [.ref sb, .ref ob] (zBN D cy rf (fun H => zSA D cy sb ag ad σ adD δ H ∧ zTd D cy ob w0 H))) (zqM (some (.int (zkc [6] (k_none σ)))) (fun H => zSA D cy sb ag ad σ adD δ H ∧ zTd D cy ob (if k_none σ = 0 then FP.f2d (k_gs σ) else w0) H) (zRO ad adD ob)) 1 6 (zRO ad adD ob) := by
  refine zmetW (by decide) rfl (Nat.le_of_ble_eq_true rfl) rfl (fun p e s m below meth c ls X hml hr hlocks hex hv hl => ?_)
  obtain ⟨hK, hE, hN, ⟨hO, hW, hWD⟩, hT⟩ := hv
  obtain ⟨hx, hb, -, -⟩ := id X
  have hl : lv_has ls 3 [(0, .ref sb), (1, .ref ob)] := hl
  have hS : va_S (zRO ad adD ob) s.heap s.heap [] := va_S.rf
  refine lv_aload_n hx hb dL_groundedShare_0 rfl (lv_at hl 1 rfl) ?_
  refine lv_iconst (v := 0) hx hb dL_groundedShare_1 (by decide) ?_
  refine lv_aload_n hx hb dL_groundedShare_2 rfl (lv_at hl 0 rfl) ?_
  refine zcallCV (As := []) (rest := [.int 0, .ref ob]) X hml hK hE ⟨hO, hW, hWD⟩ (ctX9_groundedShare l hl0 D cy rf sb ag ad σ adD δ hV) zmX9_groundedShare (by decide) m_1078 (zrecv hK hO rfl) ⟨(Nat.le_of_ble_eq_true rfl), (Nat.le_of_ble_eq_true rfl)⟩ ⟨(Nat.le_of_ble_eq_true rfl), (Nat.le_of_ble_eq_true rfl)⟩ rfl hl.1 rfl (Nat.le_of_ble_eq_true rfl) dL_groundedShare_3 hS (fun _ h => h.elim) (fun E ce q9 H locs hr0 hE0 hsz hfr hS hce hcv hcl => ?_) (fun h0 H locs hG9 hsz hfr hS => ?_)
  · replace hO := zO.kept hO (fun hq => hfr _ hq)
    replace hW := zW.kept hW (fun q hq => hfr q (hW.lt hq))
    replace hWD := zW.kept hWD (fun q hq => hfr q (hWD.lt hq))
    replace hT := hT.kept (fun hq => hfr _ hq)
    rcases (zr_none σ) with h0 | h0
    · exact absurd h0 hr0
    · rw [hE0, h0] at hcl
      refine vx_catch (E := "java/lang/ArithmeticException") (name := "java/lang/ArithmeticException") X.2.2.1 [] (zte 0 8 11 121) [] (hex.trans rfl) (fun _ h => nomatch h) (by decide) (by decide) (X.2.2.2 _ m_1064) (zcastX (X.2.2.2 _ m_24)) hce hcv hcl (?_ : W p l e _ s m _ below meth c _ _ _ _ _ (F0 m 11 ls [.ref q9]))
      refine lv_astore_n (lv' := [(2, .ref q9), (0, .ref sb), (1, .ref ob)]) hx hb dL_groundedShare_11 rfl hl (by decide) rfl (fun ls hl => ?_)
      refine lv_iconst (v := 1) hx hb dL_groundedShare_12 (by decide) ?_
      exact zo_i hx hb hr hlocks (by rw [h0]; rfl) ⟨⟨hO, hW, hWD⟩, by rw [if_neg hr0]; exact hT⟩ hS (Nat.le_of_ble_eq_true rfl) (Nat.le_of_ble_eq_true rfl) dL_groundedShare_13
  · obtain ⟨hO, hW, hWD⟩ := hG9
    replace hT := hT.kept (fun hq => hfr _ hq (fun z => z))
    refine lv_f2d hx hb dL_groundedShare_6 (zn_fd (fun z => absurd h0 (by rw [k_none, if_pos z]; decide))) ?_
    refine zoD X hK hT hS (Or.inr rfl) dL_groundedShare_7 (fun H locs hT hz9 hfr9 hS => ?_)
    have hO := zO.kept hO (fun _ => hfr9 sb (Ne.symm hob.2))
    have hW := zW.kept hW (fun q hq => hfr9 q (fun z => hob.1 (Or.inl (by rw [← z]; exact hq))))
    have hWD := zW.kept hWD (fun q hq => hfr9 q (fun z => hob.1 (Or.inr (by rw [← z]; exact hq))))
    refine lv_goto (tgt := 14) hx hb dL_groundedShare_8 (by decide) ?_
    refine lv_iconst (v := 0) hx hb dL_groundedShare_14 (by decide) ?_
    exact zo_i hx hb hr hlocks (by rw [h0]; rfl) ⟨⟨hO, hW, hWD⟩, by rw [if_pos h0]; exact hT⟩ hS (Nat.le_of_ble_eq_true rfl) (Nat.le_of_ble_eq_true rfl) dL_groundedShare_15
theorem zmL_meanDrops : zmW yL_meanDrops RL cL_meanDrops 3 (some .int) [(0, 7, 10, 121)] 2 := ⟨m_1090, m_0, m_1091, rfl, by decide, by decide, by decide +kernel⟩
set_option maxRecDepth 100000 in
set_option maxHeartbeats 4000000 in
theorem ctL_meanDrops (l : Launch) (hl0 : l.stackTraces = false) (D : va_G) (cy : Nat → ClassId) (rf : Nat → Nat) (sb ag : Nat) (ad : Nat → Nat → Nat) (σ : zS) (adD : Nat → Nat → Nat) (δ : zS) (ob : Nat) (w0 : UInt64) (hob : ¬ zRA ad adD ob ∧ ob ≠ sb) (hV : zV σ) : Met l yL_meanDrops (zww yL_meanDrops cL_meanDrops 3 (some .int) [(0, 7, 10, 121)]) (zrx 9 1 6) (va_Pc [.ref sb, .ref ob] (zBN D cy rf (fun H => zSA D cy sb ag ad σ adD δ H ∧ zTd D cy ob w0 H))) (zqM (some (.int (zkc [6] (k_none σ)))) (fun H => zSA D cy sb ag ad σ adD δ H ∧ zTd D cy ob (if k_none σ = 0 then k_md σ else w0) H) (zRO ad adD ob)) 1 6 (zRO ad adD ob) := by
  refine zmetW (by decide) rfl (Nat.le_of_ble_eq_true rfl) rfl (fun p e s m below meth c ls X hml hr hlocks hex hv hl => ?_)
  obtain ⟨hK, hE, hN, ⟨hO, hW, hWD⟩, hT⟩ := hv
  obtain ⟨hx, hb, -, -⟩ := id X
  have hl : lv_has ls 3 [(0, .ref sb), (1, .ref ob)] := hl
  have hS : va_S (zRO ad adD ob) s.heap s.heap [] := va_S.rf
  refine lv_aload_n hx hb dL_meanDrops_0 rfl (lv_at hl 1 rfl) ?_
  refine lv_iconst (v := 0) hx hb dL_meanDrops_1 (by decide) ?_
  refine lv_aload_n hx hb dL_meanDrops_2 rfl (lv_at hl 0 rfl) ?_
  refine zcallCV (As := []) (rest := [.int 0, .ref ob]) X hml hK hE ⟨hO, hW, hWD⟩ (ctX9_meanDrops l hl0 D cy rf sb ag ad σ adD δ hV) zmX9_meanDrops (by decide) m_1092 (zrecv hK hO rfl) ⟨(Nat.le_of_ble_eq_true rfl), (Nat.le_of_ble_eq_true rfl)⟩ ⟨(Nat.le_of_ble_eq_true rfl), (Nat.le_of_ble_eq_true rfl)⟩ rfl hl.1 rfl (Nat.le_of_ble_eq_true rfl) dL_meanDrops_3 hS (fun _ h => h.elim) (fun E ce q9 H locs hr0 hE0 hsz hfr hS hce hcv hcl => ?_) (fun h0 H locs hG9 hsz hfr hS => ?_)
  · replace hO := zO.kept hO (fun hq => hfr _ hq)
    replace hW := zW.kept hW (fun q hq => hfr q (hW.lt hq))
    replace hWD := zW.kept hWD (fun q hq => hfr q (hWD.lt hq))
    replace hT := hT.kept (fun hq => hfr _ hq)
    rcases (zr_none σ) with h0 | h0
    · exact absurd h0 hr0
    · rw [hE0, h0] at hcl
      refine vx_catch (E := "java/lang/ArithmeticException") (name := "java/lang/ArithmeticException") X.2.2.1 [] (zte 0 7 10 121) [] (hex.trans rfl) (fun _ h => nomatch h) (by decide) (by decide) (X.2.2.2 _ m_1064) (zcastX (X.2.2.2 _ m_24)) hce hcv hcl (?_ : W p l e _ s m _ below meth c _ _ _ _ _ (F0 m 10 ls [.ref q9]))
      refine lv_astore_n (lv' := [(2, .ref q9), (0, .ref sb), (1, .ref ob)]) hx hb dL_meanDrops_10 rfl hl (by decide) rfl (fun ls hl => ?_)
      refine lv_iconst (v := 1) hx hb dL_meanDrops_11 (by decide) ?_
      exact zo_i hx hb hr hlocks (by rw [h0]; rfl) ⟨⟨hO, hW, hWD⟩, by rw [if_neg hr0]; exact hT⟩ hS (Nat.le_of_ble_eq_true rfl) (Nat.le_of_ble_eq_true rfl) dL_meanDrops_12
  · obtain ⟨hO, hW, hWD⟩ := hG9
    replace hT := hT.kept (fun hq => hfr _ hq (fun z => z))
    refine zoD X hK hT hS (Or.inr rfl) dL_meanDrops_6 (fun H locs hT hz9 hfr9 hS => ?_)
    have hO := zO.kept hO (fun _ => hfr9 sb (Ne.symm hob.2))
    have hW := zW.kept hW (fun q hq => hfr9 q (fun z => hob.1 (Or.inl (by rw [← z]; exact hq))))
    have hWD := zW.kept hWD (fun q hq => hfr9 q (fun z => hob.1 (Or.inr (by rw [← z]; exact hq))))
    refine lv_goto (tgt := 13) hx hb dL_meanDrops_7 (by decide) ?_
    refine lv_iconst (v := 0) hx hb dL_meanDrops_13 (by decide) ?_
    exact zo_i hx hb hr hlocks (by rw [h0]; rfl) ⟨⟨hO, hW, hWD⟩, by rw [if_pos h0]; exact hT⟩ hS (Nat.le_of_ble_eq_true rfl) (Nat.le_of_ble_eq_true rfl) dL_meanDrops_14
