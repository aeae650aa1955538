section ZLL
variable {p : Program} {l : Launch} {e : Env} {s : State} {m : MethodId} {args : Array Value} {below : List Frame} {meth : Method} {c : Code} {D : va_G} {cy : Nat → ClassId} {rf : Nat → Nat} {N b L : Nat} {xs : Nat → Int32} {ak av : Nat → Nat} {Q : State → Prop}
def V0 : Nat → Int64 := fun _ => 0
set_option maxRecDepth 100000 in
set_option maxHeartbeats 4000000 in
theorem zlw_1 (X : zX p m c s args RL cL_law) (hml : c.maxLocals = 10) (hl0 : l.stackTraces = false) (C0 : zCx s D cy rf N b L xs ak av) (hL : L ≤ 260) (kk : ∀ (H : Heap) (locs : List Loc) (cells slots : Nat) (ls : Array Slot) (σ δ μ τ : zS), zSA D cy N (zxb N 0 0) (zxa N) σ (zxd N) δ H → zWb D cy N H → va_S (zLA N) s.heap H locs → N + 339 ≤ H.size → zP 4 0 0 4 0 V0 σ δ μ τ → lv_has ls 10 [(4, .int (nI 4)), (3, .int 1), (2, .int (nI (1 + 2 * 4))), (1, .ref N), (0, .ref b)] → cells ≤ 339 + 4 → slots ≤ 6485 + 6 * 4 → W p l e room_1 s m args below meth c H locs cells slots Q (F0 m 71 ls [])) : ∀ (r j : Nat), j + r = 4 → ∀ (H : Heap) (locs : List Loc) (cells slots : Nat) (ls : Array Slot) (σ δ μ τ : zS), zSA D cy N (zxb N 0 0) (zxa N) σ (zxd N) δ H → zWb D cy N H → va_S (zLA N) s.heap H locs → N + 339 ≤ H.size → zP j 0 0 j 0 V0 σ δ μ τ → lv_has ls 10 [(4, .int (nI j)), (3, .int 1), (2, .int (nI (1 + 2 * j))), (1, .ref N), (0, .ref b)] → cells ≤ 339 + j → slots ≤ 6485 + 6 * j → W p l e room_1 s m args below meth c H locs cells slots Q (F0 m 15 ls []) := by
  obtain ⟨hx, hb, -, -⟩ := id X
  have hA0 : ∀ q, zLA N q → zLA N q := fun q h => h
  have hL31 : L < 2 ^ 31 := by omega
  intro r
  induction r with
  | zero =>
    intro j hj H locs cells slots ls σ δ μ τ hG hWb hS hz hP hl hcl hsl
    have hj : j = 4 := hj
    subst hj
    refine lv_iload hx hb dL_law_15 (lv_at hl 0 rfl) ?_
    refine lv_iconst (v := 4) hx hb dL_law_17 (by decide) ?_
    refine lv_icmp_ge (tgt := 71) hx hb dL_law_18 (by decide) (fun b1 => ?_) (fun h => absurd (Int32.le_refl _) h)
    exact kk H locs _ _ ls σ δ μ τ hG hWb hS hz hP (lv_sub hl [0, 1, 2, 3, 4] rfl) hcl hsl
  | succ r ih =>
    intro j hj H locs cells slots ls σ δ μ τ hG hWb hS hz hP hl hcl hsl
    refine lv_iload hx hb dL_law_15 (lv_at hl 0 rfl) ?_
    refine lv_iconst (v := 4) hx hb dL_law_17 (by decide) ?_
    refine lv_icmp_ge (tgt := 71) hx hb dL_law_18 (by decide) (fun h => absurd h (fun z => absurd ((nI_leI (a := 4) (b := j) (by decide) (by omega)).mp z) (by omega))) (fun b1 => ?_)
    refine lv_iload_n hx hb dL_law_21 rfl (lv_at hl 1 rfl) ?_
    refine lv_aload_n hx hb dL_law_22 rfl (lv_at hl 3 rfl) ?_
    refine lv_bipush (v := 63) hx hb dL_law_23 (by decide) ?_
    refine lv_aload_n hx hb dL_law_25 rfl (lv_at hl 4 rfl) ?_
    refine lv_iload_n hx hb dL_law_26 rfl (lv_at hl 2 rfl) ?_
    refine lv_iconst (v := 3) hx hb dL_law_27 (by decide) ?_
    refine zcallLR (As := [.ref b, .int (nI (1 + 2 * j)), .int (nI 3)]) (rest := [.int 63, .ref N, .int 1]) X hml C0 hA0 trivial (ctL_pick l D cy rf N b L xs ak av hL31 (1 + 2 * j) (by omega) 3 (by decide) (by decide)) zmL_pick (by decide) m_637 ⟨(Nat.le_of_ble_eq_true rfl), (Nat.le_of_ble_eq_true rfl)⟩ ⟨by show cells ≤ 649714; omega, by show slots ≤ 7146033; omega⟩ rfl hl.1 rfl (Nat.le_of_ble_eq_true rfl) dL_law_28 hS ?_
    have h_p1 : lpick L xs (1 + 2 * j) 3 < 3 := lpick_lt 3 (by decide) _
    generalize lpick L xs (1 + 2 * j) 3 = p1 at h_p1 ⊢
    refine lv_isub hx hb dL_law_31 ?_
    rw [show (63 - (nI p1) : Int32) = nI (63 - p1) from (nI_subN (a := 63) (b := p1) (by omega))]
    refine lv_bipush (v := 50) hx hb dL_law_32 (by decide) ?_
    refine lv_bipush (v := 100) hx hb dL_law_34 (by decide) ?_
    refine lv_aload_n hx hb dL_law_36 rfl (lv_at hl 4 rfl) ?_
    refine lv_iload_n hx hb dL_law_37 rfl (lv_at hl 2 rfl) ?_
    refine lv_iconst (v := 1) hx hb dL_law_38 (by decide) ?_
    refine lv_iadd hx hb dL_law_39 ?_
    rw [show ((nI (1 + 2 * j)) + 1 : Int32) = nI (1 + 2 * j + 1) from (nI_1 _)]
    refine lv_bipush (v := 9) hx hb dL_law_40 (by decide) ?_
    refine zcallLR (As := [.ref b, .int (nI (1 + 2 * j + 1)), .int (nI 9)]) (rest := [.int 100, .int 50, .int (nI (63 - p1)), .ref N, .int 1]) X hml C0 hA0 trivial (ctL_pick l D cy rf N b L xs ak av hL31 (1 + 2 * j + 1) (by omega) 9 (by decide) (by decide)) zmL_pick (by decide) m_637 ⟨(Nat.le_of_ble_eq_true rfl), (Nat.le_of_ble_eq_true rfl)⟩ ⟨by show cells ≤ 649714; omega, by show slots ≤ 7146033; omega⟩ rfl hl.1 rfl (Nat.le_of_ble_eq_true rfl) dL_law_42 hS ?_
    have h_q1 : lpick L xs (1 + 2 * j + 1) 9 < 9 := lpick_lt 9 (by decide) _
    generalize lpick L xs (1 + 2 * j + 1) 9 = q1 at h_q1 ⊢
    refine lv_imul hx hb dL_law_45 ?_
    rw [show (100 * (nI q1) : Int32) = nI (100 * q1) from pk_mul 100 q1]
    refine lv_iadd hx hb dL_law_46 ?_
    rw [show (50 + (nI (100 * q1)) : Int32) = nI (50 + 100 * q1) from (nI_add 50 _)]
    refine zlW (As := [.ref N, .int (nI (63 - p1)), .int (nI (50 + 100 * q1))]) (rest := [.int 1]) X hml C0 hA0 hG (ctL_addRigger l hl0 D cy rf N (zxb N 0 0) (zxa N) σ (zxd N) δ zu_J (nI (63 - p1)) (nI (50 + 100 * q1)) hP.zv hP.dc (hP.df (by omega))) zmL_addRigger (by decide) m_644 ⟨(Nat.le_of_ble_eq_true rfl), (Nat.le_of_ble_eq_true rfl)⟩ ⟨by show cells + 1 ≤ 649714; omega, by show slots + 6 ≤ 7146033; omega⟩ rfl hl.1 rfl (Nat.le_of_ble_eq_true rfl) dL_law_47 hS (fun q h => by have := zu_ra h; show N ≤ q; omega) (fun H locs hG hsz hfr hS => ?_)
    replace hWb := hWb.kp (fun q h1 z => hfr q h1 (fun y => by have := zu_ra y; have := zu_b z; omega))
    replace hz := Nat.le_trans hz hsz
    obtain ⟨hF, μ_1, τ_1, hP_1⟩ := pf_0 hP (by omega) (by omega) (x := (63 - p1)) (y := (50 + 100 * q1)) (by omega) (by omega)
    rw [hF]
    generalize k_nS σ 0 (nI (63 - p1)) (nI (50 + 100 * q1)) 0 0 = σ_1 at hG hP_1
    generalize k_nD σ δ 0 (nI (63 - p1)) (nI (50 + 100 * q1)) 0 0 = δ_1 at hG hP_1
    refine lv_iload hx hb dL_law_50 (lv_at hl 0 rfl) ?_
    refine lv_icmp_ne (tgt := 59) hx hb dL_law_52 (by decide) (fun h => absurd h (not_not_intro rfl)) (fun b2 => ?_)
    refine lv_iconst (v := 1) hx hb dL_law_55 (by decide) ?_
    refine lv_goto (tgt := 60) hx hb dL_law_56 (by decide) ?_
    refine lv_iand hx hb dL_law_60 ?_
    rw [show (1 &&& 1 : Int32) = 1 from (by decide)]
    refine lv_istore_n (lv' := [(3, .int 1), (4, .int (nI j)), (2, .int (nI (1 + 2 * j))), (1, .ref N), (0, .ref b)]) hx hb dL_law_61 rfl hl (by decide) rfl (fun ls hl => ?_)
    refine lv_iinc (v := nI (1 + 2 * (j + 1))) (lv' := [(2, .int (nI (1 + 2 * (j + 1)))), (3, .int 1), (4, .int (nI j)), (1, .ref N), (0, .ref b)]) hx hb dL_law_62 hl (k := 2) rfl (show nI (1 + 2 * j) + 2 = nI (1 + 2 * (j + 1)) from by rw [show (2 : Int32) = nI 2 from rfl, nI_add]; exact congrArg nI (by omega)) (by decide) rfl (fun ls hl => ?_)
    refine lv_iinc (v := nI (j + 1)) (lv' := [(4, .int (nI (j + 1))), (2, .int (nI (1 + 2 * (j + 1)))), (3, .int 1), (1, .ref N), (0, .ref b)]) hx hb dL_law_65 hl (k := 2) rfl (nI_1 j) (by decide) rfl (fun ls hl => ?_)
    refine lv_goto (tgt := 15) hx hb dL_law_68 (by decide) ?_
    exact ih (j + 1) (by omega) H locs _ _ ls σ_1 δ_1 μ_1 τ_1 hG hWb hS hz hP_1 (lv_sub hl [0, 2, 1, 3, 4] rfl) (by omega) (by omega)
set_option maxRecDepth 100000 in
set_option maxHeartbeats 4000000 in
theorem zlw_2 (X : zX p m c s args RL cL_law) (hml : c.maxLocals = 10) (hl0 : l.stackTraces = false) (C0 : zCx s D cy rf N b L xs ak av) (hL : L ≤ 260) (kk : ∀ (H : Heap) (locs : List Loc) (cells slots : Nat) (ls : Array Slot) (σ δ μ τ : zS), zSA D cy N (zxb N 0 0) (zxa N) σ (zxd N) δ H → zWb D cy N H → va_S (zLA N) s.heap H locs → N + 339 ≤ H.size → zP 4 8 0 (4 + 8) 0 V0 σ δ μ τ → lv_has ls 10 [(4, .int (nI 8)), (3, .int 1), (2, .int (nI (9 + 2 * 8))), (1, .ref N), (0, .ref b)] → cells ≤ 343 + 8 → slots ≤ 6509 + 6 * 8 → W p l e room_1 s m args below meth c H locs cells slots Q (F0 m 148 ls [])) : ∀ (r j : Nat), j + r = 8 → ∀ (H : Heap) (locs : List Loc) (cells slots : Nat) (ls : Array Slot) (σ δ μ τ : zS), zSA D cy N (zxb N 0 0) (zxa N) σ (zxd N) δ H → zWb D cy N H → va_S (zLA N) s.heap H locs → N + 339 ≤ H.size → zP 4 j 0 (4 + j) 0 V0 σ δ μ τ → lv_has ls 10 [(4, .int (nI j)), (3, .int 1), (2, .int (nI (9 + 2 * j))), (1, .ref N), (0, .ref b)] → cells ≤ 343 + j → slots ≤ 6509 + 6 * j → W p l e room_1 s m args below meth c H locs cells slots Q (F0 m 74 ls []) := by
  obtain ⟨hx, hb, -, -⟩ := id X
  have hA0 : ∀ q, zLA N q → zLA N q := fun q h => h
  have hL31 : L < 2 ^ 31 := by omega
  intro r
  induction r with
  | zero =>
    intro j hj H locs cells slots ls σ δ μ τ hG hWb hS hz hP hl hcl hsl
    have hj : j = 8 := hj
    subst hj
    refine lv_iload hx hb dL_law_74 (lv_at hl 0 rfl) ?_
    refine lv_bipush (v := 8) hx hb dL_law_76 (by decide) ?_
    refine lv_icmp_ge (tgt := 148) hx hb dL_law_78 (by decide) (fun b1 => ?_) (fun h => absurd (Int32.le_refl _) h)
    exact kk H locs _ _ ls σ δ μ τ hG hWb hS hz hP (lv_sub hl [0, 1, 2, 3, 4] rfl) hcl hsl
  | succ r ih =>
    intro j hj H locs cells slots ls σ δ μ τ hG hWb hS hz hP hl hcl hsl
    refine lv_iload hx hb dL_law_74 (lv_at hl 0 rfl) ?_
    refine lv_bipush (v := 8) hx hb dL_law_76 (by decide) ?_
    refine lv_icmp_ge (tgt := 148) hx hb dL_law_78 (by decide) (fun h => absurd h (fun z => absurd ((nI_leI (a := 8) (b := j) (by decide) (by omega)).mp z) (by omega))) (fun b1 => ?_)
    refine lv_iload_n hx hb dL_law_81 rfl (lv_at hl 1 rfl) ?_
    refine lv_aload_n hx hb dL_law_82 rfl (lv_at hl 3 rfl) ?_
    refine lv_iload hx hb dL_law_83 (lv_at hl 0 rfl) ?_
    refine lv_iconst (v := 2) hx hb dL_law_85 (by decide) ?_
    refine lv_irem hx hb dL_law_86 (by decide) ?_
    rw [show ((nI j) - (nI j) / 2 * 2 : Int32) = nI (j % 2) from (pk_rem (d := 2) (by omega) (by decide) (by decide))]
    refine lv_if_ne (tgt := 95) hx hb dL_law_87 (by decide) (fun b2 => ?_) (fun b2 => ?_)
    · refine lv_bipush (v := 114) hx hb dL_law_95 (by decide) ?_
      refine lv_aload_n hx hb dL_law_97 rfl (lv_at hl 4 rfl) ?_
      refine lv_iload_n hx hb dL_law_98 rfl (lv_at hl 2 rfl) ?_
      refine lv_iconst (v := 3) hx hb dL_law_99 (by decide) ?_
      refine zcallLR (As := [.ref b, .int (nI (9 + 2 * j)), .int (nI 3)]) (rest := [.int 114, .ref N, .int 1]) X hml C0 hA0 trivial (ctL_pick l D cy rf N b L xs ak av hL31 (9 + 2 * j) (by omega) 3 (by decide) (by decide)) zmL_pick (by decide) m_637 ⟨(Nat.le_of_ble_eq_true rfl), (Nat.le_of_ble_eq_true rfl)⟩ ⟨by show cells ≤ 649714; omega, by show slots ≤ 7146033; omega⟩ rfl hl.1 rfl (Nat.le_of_ble_eq_true rfl) dL_law_100 hS ?_
      have h_p1 : lpick L xs (9 + 2 * j) 3 < 3 := lpick_lt 3 (by decide) _
      generalize lpick L xs (9 + 2 * j) 3 = p1 at h_p1 ⊢
      refine lv_aload_n hx hb dL_law_103 rfl (lv_at hl 4 rfl) ?_
      refine lv_iload_n hx hb dL_law_104 rfl (lv_at hl 2 rfl) ?_
      refine lv_iconst (v := 1) hx hb dL_law_105 (by decide) ?_
      refine lv_iadd hx hb dL_law_106 ?_
      rw [show ((nI (9 + 2 * j)) + 1 : Int32) = nI (9 + 2 * j + 1) from (nI_1 _)]
      refine lv_iconst (v := 3) hx hb dL_law_107 (by decide) ?_
      refine zcallLR (As := [.ref b, .int (nI (9 + 2 * j + 1)), .int (nI 3)]) (rest := [.int (nI p1), .int 114, .ref N, .int 1]) X hml C0 hA0 trivial (ctL_pick l D cy rf N b L xs ak av hL31 (9 + 2 * j + 1) (by omega) 3 (by decide) (by decide)) zmL_pick (by decide) m_637 ⟨(Nat.le_of_ble_eq_true rfl), (Nat.le_of_ble_eq_true rfl)⟩ ⟨by show cells ≤ 649714; omega, by show slots ≤ 7146033; omega⟩ rfl hl.1 rfl (Nat.le_of_ble_eq_true rfl) dL_law_108 hS ?_
      have h_q1 : lpick L xs (9 + 2 * j + 1) 3 < 3 := lpick_lt 3 (by decide) _
      generalize lpick L xs (9 + 2 * j + 1) 3 = q1 at h_q1 ⊢
      refine lv_bipush (v := 40) hx hb dL_law_111 (by decide) ?_
      refine lv_bipush (v := 60) hx hb dL_law_113 (by decide) ?_
      refine lv_aload_n hx hb dL_law_115 rfl (lv_at hl 4 rfl) ?_
      refine lv_iload_n hx hb dL_law_116 rfl (lv_at hl 2 rfl) ?_
      refine lv_bipush (v := 9) hx hb dL_law_117 (by decide) ?_
      refine zcallLR (As := [.ref b, .int (nI (9 + 2 * j)), .int (nI 9)]) (rest := [.int 60, .int 40, .int (nI q1), .int (nI p1), .int 114, .ref N, .int 1]) X hml C0 hA0 trivial (ctL_pick l D cy rf N b L xs ak av hL31 (9 + 2 * j) (by omega) 9 (by decide) (by decide)) zmL_pick (by decide) m_637 ⟨(Nat.le_of_ble_eq_true rfl), (Nat.le_of_ble_eq_true rfl)⟩ ⟨by show cells ≤ 649714; omega, by show slots ≤ 7146033; omega⟩ rfl hl.1 rfl (Nat.le_of_ble_eq_true rfl) dL_law_119 hS ?_
      have h_t1 : lpick L xs (9 + 2 * j) 9 < 9 := lpick_lt 9 (by decide) _
      generalize lpick L xs (9 + 2 * j) 9 = t1 at h_t1 ⊢
      refine lv_imul hx hb dL_law_122 ?_
      rw [show (60 * (nI t1) : Int32) = nI (60 * t1) from pk_mul 60 t1]
      refine lv_iadd hx hb dL_law_123 ?_
      rw [show (40 + (nI (60 * t1)) : Int32) = nI (40 + 60 * t1) from (nI_add 40 _)]
      refine zlW (As := [.ref N, .int 114, .int (nI p1), .int (nI q1), .int (nI (40 + 60 * t1))]) (rest := [.int 1]) X hml C0 hA0 hG (ctL_addCanopy l hl0 D cy rf N (zxb N 0 0) (zxa N) σ (zxd N) δ zu_J 114 (nI p1) (nI q1) (nI (40 + 60 * t1)) hP.zv hP.dc (hP.df (by omega))) zmL_addCanopy (by decide) m_795 ⟨(Nat.le_of_ble_eq_true rfl), (Nat.le_of_ble_eq_true rfl)⟩ ⟨by show cells + 1 ≤ 649714; omega, by show slots + 6 ≤ 7146033; omega⟩ rfl hl.1 rfl (Nat.le_of_ble_eq_true rfl) dL_law_124 hS (fun q h => by have := zu_ra h; show N ≤ q; omega) (fun H locs hG hsz hfr hS => ?_)
      replace hWb := hWb.kp (fun q h1 z => hfr q h1 (fun y => by have := zu_ra y; have := zu_b z; omega))
      replace hz := Nat.le_trans hz hsz
      obtain ⟨hF, μ_2, τ_2, hP_2⟩ := pf_2 hP (by omega) (by omega) (w := 114) (x := p1) (y := q1) (z := (40 + 60 * t1)) (by omega) (by omega) (by omega) (by omega) (by rw [if_neg (fun z => b2 (by rw [z]; rfl))])
      rw [hF]
      generalize k_nS σ 2 114 (nI p1) (nI q1) (nI (40 + 60 * t1)) = σ_2 at hG hP_2
      generalize k_nD σ δ 2 114 (nI p1) (nI q1) (nI (40 + 60 * t1)) = δ_2 at hG hP_2
      refine lv_iload hx hb dL_law_127 (lv_at hl 0 rfl) ?_
      refine lv_icmp_ne (tgt := 136) hx hb dL_law_129 (by decide) (fun h => absurd h (not_not_intro rfl)) (fun b3 => ?_)
      refine lv_iconst (v := 1) hx hb dL_law_132 (by decide) ?_
      refine lv_goto (tgt := 137) hx hb dL_law_133 (by decide) ?_
      refine lv_iand hx hb dL_law_137 ?_
      rw [show (1 &&& 1 : Int32) = 1 from (by decide)]
      refine lv_istore_n (lv' := [(3, .int 1), (4, .int (nI j)), (2, .int (nI (9 + 2 * j))), (1, .ref N), (0, .ref b)]) hx hb dL_law_138 rfl hl (by decide) rfl (fun ls hl => ?_)
      refine lv_iinc (v := nI (9 + 2 * (j + 1))) (lv' := [(2, .int (nI (9 + 2 * (j + 1)))), (3, .int 1), (4, .int (nI j)), (1, .ref N), (0, .ref b)]) hx hb dL_law_139 hl (k := 2) rfl (show nI (9 + 2 * j) + 2 = nI (9 + 2 * (j + 1)) from by rw [show (2 : Int32) = nI 2 from rfl, nI_add]; exact congrArg nI (by omega)) (by decide) rfl (fun ls hl => ?_)
      refine lv_iinc (v := nI (j + 1)) (lv' := [(4, .int (nI (j + 1))), (2, .int (nI (9 + 2 * (j + 1)))), (3, .int 1), (1, .ref N), (0, .ref b)]) hx hb dL_law_142 hl (k := 2) rfl (nI_1 j) (by decide) rfl (fun ls hl => ?_)
      refine lv_goto (tgt := 74) hx hb dL_law_145 (by decide) ?_
      exact ih (j + 1) (by omega) H locs _ _ ls σ_2 δ_2 μ_2 τ_2 hG hWb hS hz (hP_2.up (by omega) (Nat.le_refl _)) (lv_sub hl [0, 2, 1, 3, 4] rfl) (by omega) (by omega)
    · refine lv_bipush (v := 109) hx hb dL_law_90 (by decide) ?_
      refine lv_goto (tgt := 97) hx hb dL_law_92 (by decide) ?_
      refine lv_aload_n hx hb dL_law_97 rfl (lv_at hl 4 rfl) ?_
      refine lv_iload_n hx hb dL_law_98 rfl (lv_at hl 2 rfl) ?_
      refine lv_iconst (v := 3) hx hb dL_law_99 (by decide) ?_
      refine zcallLR (As := [.ref b, .int (nI (9 + 2 * j)), .int (nI 3)]) (rest := [.int 109, .ref N, .int 1]) X hml C0 hA0 trivial (ctL_pick l D cy rf N b L xs ak av hL31 (9 + 2 * j) (by omega) 3 (by decide) (by decide)) zmL_pick (by decide) m_637 ⟨(Nat.le_of_ble_eq_true rfl), (Nat.le_of_ble_eq_true rfl)⟩ ⟨by show cells ≤ 649714; omega, by show slots ≤ 7146033; omega⟩ rfl hl.1 rfl (Nat.le_of_ble_eq_true rfl) dL_law_100 hS ?_
      have h_p1 : lpick L xs (9 + 2 * j) 3 < 3 := lpick_lt 3 (by decide) _
      generalize lpick L xs (9 + 2 * j) 3 = p1 at h_p1 ⊢
      refine lv_aload_n hx hb dL_law_103 rfl (lv_at hl 4 rfl) ?_
      refine lv_iload_n hx hb dL_law_104 rfl (lv_at hl 2 rfl) ?_
      refine lv_iconst (v := 1) hx hb dL_law_105 (by decide) ?_
      refine lv_iadd hx hb dL_law_106 ?_
      rw [show ((nI (9 + 2 * j)) + 1 : Int32) = nI (9 + 2 * j + 1) from (nI_1 _)]
      refine lv_iconst (v := 3) hx hb dL_law_107 (by decide) ?_
      refine zcallLR (As := [.ref b, .int (nI (9 + 2 * j + 1)), .int (nI 3)]) (rest := [.int (nI p1), .int 109, .ref N, .int 1]) X hml C0 hA0 trivial (ctL_pick l D cy rf N b L xs ak av hL31 (9 + 2 * j + 1) (by omega) 3 (by decide) (by decide)) zmL_pick (by decide) m_637 ⟨(Nat.le_of_ble_eq_true rfl), (Nat.le_of_ble_eq_true rfl)⟩ ⟨by show cells ≤ 649714; omega, by show slots ≤ 7146033; omega⟩ rfl hl.1 rfl (Nat.le_of_ble_eq_true rfl) dL_law_108 hS ?_
      have h_q1 : lpick L xs (9 + 2 * j + 1) 3 < 3 := lpick_lt 3 (by decide) _
      generalize lpick L xs (9 + 2 * j + 1) 3 = q1 at h_q1 ⊢
      refine lv_bipush (v := 40) hx hb dL_law_111 (by decide) ?_
      refine lv_bipush (v := 60) hx hb dL_law_113 (by decide) ?_
      refine lv_aload_n hx hb dL_law_115 rfl (lv_at hl 4 rfl) ?_
      refine lv_iload_n hx hb dL_law_116 rfl (lv_at hl 2 rfl) ?_
      refine lv_bipush (v := 9) hx hb dL_law_117 (by decide) ?_
      refine zcallLR (As := [.ref b, .int (nI (9 + 2 * j)), .int (nI 9)]) (rest := [.int 60, .int 40, .int (nI q1), .int (nI p1), .int 109, .ref N, .int 1]) X hml C0 hA0 trivial (ctL_pick l D cy rf N b L xs ak av hL31 (9 + 2 * j) (by omega) 9 (by decide) (by decide)) zmL_pick (by decide) m_637 ⟨(Nat.le_of_ble_eq_true rfl), (Nat.le_of_ble_eq_true rfl)⟩ ⟨by show cells ≤ 649714; omega, by show slots ≤ 7146033; omega⟩ rfl hl.1 rfl (Nat.le_of_ble_eq_true rfl) dL_law_119 hS ?_
      have h_t1 : lpick L xs (9 + 2 * j) 9 < 9 := lpick_lt 9 (by decide) _
      generalize lpick L xs (9 + 2 * j) 9 = t1 at h_t1 ⊢
      refine lv_imul hx hb dL_law_122 ?_
      rw [show (60 * (nI t1) : Int32) = nI (60 * t1) from pk_mul 60 t1]
      refine lv_iadd hx hb dL_law_123 ?_
      rw [show (40 + (nI (60 * t1)) : Int32) = nI (40 + 60 * t1) from (nI_add 40 _)]
      refine zlW (As := [.ref N, .int 109, .int (nI p1), .int (nI q1), .int (nI (40 + 60 * t1))]) (rest := [.int 1]) X hml C0 hA0 hG (ctL_addCanopy l hl0 D cy rf N (zxb N 0 0) (zxa N) σ (zxd N) δ zu_J 109 (nI p1) (nI q1) (nI (40 + 60 * t1)) hP.zv hP.dc (hP.df (by omega))) zmL_addCanopy (by decide) m_795 ⟨(Nat.le_of_ble_eq_true rfl), (Nat.le_of_ble_eq_true rfl)⟩ ⟨by show cells + 1 ≤ 649714; omega, by show slots + 6 ≤ 7146033; omega⟩ rfl hl.1 rfl (Nat.le_of_ble_eq_true rfl) dL_law_124 hS (fun q h => by have := zu_ra h; show N ≤ q; omega) (fun H locs hG hsz hfr hS => ?_)
      replace hWb := hWb.kp (fun q h1 z => hfr q h1 (fun y => by have := zu_ra y; have := zu_b z; omega))
      replace hz := Nat.le_trans hz hsz
      obtain ⟨hF, μ_3, τ_3, hP_3⟩ := pf_2 hP (by omega) (by omega) (w := 109) (x := p1) (y := q1) (z := (40 + 60 * t1)) (by omega) (by omega) (by omega) (by omega) (by rw [if_pos (nI_inj' (a := j % 2) (b := 0) (by omega) (by decide) b2)])
      rw [hF]
      generalize k_nS σ 2 109 (nI p1) (nI q1) (nI (40 + 60 * t1)) = σ_3 at hG hP_3
      generalize k_nD σ δ 2 109 (nI p1) (nI q1) (nI (40 + 60 * t1)) = δ_3 at hG hP_3
      refine lv_iload hx hb dL_law_127 (lv_at hl 0 rfl) ?_
      refine lv_icmp_ne (tgt := 136) hx hb dL_law_129 (by decide) (fun h => absurd h (not_not_intro rfl)) (fun b4 => ?_)
      refine lv_iconst (v := 1) hx hb dL_law_132 (by decide) ?_
      refine lv_goto (tgt := 137) hx hb dL_law_133 (by decide) ?_
      refine lv_iand hx hb dL_law_137 ?_
      rw [show (1 &&& 1 : Int32) = 1 from (by decide)]
      refine lv_istore_n (lv' := [(3, .int 1), (4, .int (nI j)), (2, .int (nI (9 + 2 * j))), (1, .ref N), (0, .ref b)]) hx hb dL_law_138 rfl hl (by decide) rfl (fun ls hl => ?_)
      refine lv_iinc (v := nI (9 + 2 * (j + 1))) (lv' := [(2, .int (nI (9 + 2 * (j + 1)))), (3, .int 1), (4, .int (nI j)), (1, .ref N), (0, .ref b)]) hx hb dL_law_139 hl (k := 2) rfl (show nI (9 + 2 * j) + 2 = nI (9 + 2 * (j + 1)) from by rw [show (2 : Int32) = nI 2 from rfl, nI_add]; exact congrArg nI (by omega)) (by decide) rfl (fun ls hl => ?_)
      refine lv_iinc (v := nI (j + 1)) (lv' := [(4, .int (nI (j + 1))), (2, .int (nI (9 + 2 * (j + 1)))), (3, .int 1), (1, .ref N), (0, .ref b)]) hx hb dL_law_142 hl (k := 2) rfl (nI_1 j) (by decide) rfl (fun ls hl => ?_)
      refine lv_goto (tgt := 74) hx hb dL_law_145 (by decide) ?_
      exact ih (j + 1) (by omega) H locs _ _ ls σ_3 δ_3 μ_3 τ_3 hG hWb hS hz (hP_3.up (by omega) (Nat.le_refl _)) (lv_sub hl [0, 2, 1, 3, 4] rfl) (by omega) (by omega)
set_option maxRecDepth 100000 in
set_option maxHeartbeats 4000000 in
theorem zlw_pk (X : zX p m c s args RL cL_law) (hml : c.maxLocals = 10) (hl0 : l.stackTraces = false) (C0 : zCx s D cy rf N b L xs ak av) (hL : L ≤ 260) {dp pq j cb sb K : Nat} {V : Nat → Int64} {σ δ μ τ : zS} (hdp : N + 339 ≤ dp) (hpq : dp < pq) (hj : j < 46) (hcb : cb ≤ 600000) (hsb : sb ≤ 7000000) (hP : zP 4 8 3 K j V σ δ μ τ) (kk : ∀ (H : Heap) (locs : List Loc) (cells slots : Nat) (ls : Array Slot), zSA D cy N (zxb N 0 0) (zxa N) σ (zxd N) δ H → zWb D cy N H → zDp D cy dp V H → zPk D cy pq (lpq μ 8) H → va_S (zLA N) s.heap H locs → lv_has ls 10 [(8, .ref pq), (6, .long (zL σ 511 0)), (5, .int (nI j)), (4, .ref dp), (3, .int 1), (2, .int (nI (25 + 4 * j))), (1, .ref N), (0, .ref b)] → cells ≤ cb + 8 → slots ≤ sb + 48 → W p l e room_1 s m args below meth c H locs cells slots Q (F0 m 238 ls [])) : ∀ (r i : Nat), i + r = 8 → ∀ (H : Heap) (locs : List Loc) (cells slots : Nat) (ls : Array Slot), zSA D cy N (zxb N 0 0) (zxa N) σ (zxd N) δ H → zWb D cy N H → zDp D cy dp V H → zPk D cy pq (lpq μ i) H → va_S (zLA N) s.heap H locs → lv_has ls 10 [(9, .int (nI i)), (8, .ref pq), (6, .long (zL σ 511 0)), (5, .int (nI j)), (4, .ref dp), (3, .int 1), (2, .int (nI (25 + 4 * j))), (1, .ref N), (0, .ref b)] → cells ≤ cb + i → slots ≤ sb + 6 * i → W p l e room_1 s m args below meth c H locs cells slots Q (F0 m 214 ls []) := by
  obtain ⟨hx, hb, -, -⟩ := id X
  have hA0 : ∀ q, zLA N q → zLA N q := fun q h => h
  have hL31 : L < 2 ^ 31 := by omega
  intro r
  induction r with
  | zero =>
    intro i hi H locs cells slots ls hG hWb hDp hPk hS hl hcl hsl
    have hi : i = 8 := hi
    subst hi
    refine lv_iload hx hb dL_law_214 (lv_at hl 0 rfl) ?_
    refine lv_bipush (v := 8) hx hb dL_law_216 (by decide) ?_
    refine lv_icmp_ge (tgt := 238) hx hb dL_law_218 (by decide) (fun b1 => ?_) (fun h => absurd (Int32.le_refl _) h)
    exact kk H locs _ _ ls hG hWb hDp hPk hS (lv_sub hl [1, 2, 3, 4, 5, 6, 7, 8] rfl) hcl hsl
  | succ r ih =>
    intro i hi H locs cells slots ls hG hWb hDp hPk hS hl hcl hsl
    refine lv_iload hx hb dL_law_214 (lv_at hl 0 rfl) ?_
    refine lv_bipush (v := 8) hx hb dL_law_216 (by decide) ?_
    refine lv_icmp_ge (tgt := 238) hx hb dL_law_218 (by decide) (fun h => absurd h (fun z => absurd ((nI_leI (a := 8) (b := i) (by decide) (by omega)).mp z) (by omega))) (fun b1 => ?_)
    refine lv_aload hx hb dL_law_221 (lv_at hl 1 rfl) ?_
    refine lv_iload hx hb dL_law_223 (lv_at hl 0 rfl) ?_
    refine lv_aload_n hx hb dL_law_225 rfl (lv_at hl 7 rfl) ?_
    refine lv_iload hx hb dL_law_226 (lv_at hl 0 rfl) ?_
    refine zlW (As := [.ref N, .int (nI i)]) (rest := [.int (nI i), .ref pq]) X hml C0 hA0 hG (ctL_packings l hl0 D cy rf N (zxb N 0 0) (zxa N) σ (zxd N) δ (nI i) hP.zv) zmL_packings (by decide) m_809 ⟨(Nat.le_of_ble_eq_true rfl), (Nat.le_of_ble_eq_true rfl)⟩ ⟨by show cells + 1 ≤ 649714; omega, by show slots + 6 ≤ 7146033; omega⟩ rfl hl.1 rfl (Nat.le_of_ble_eq_true rfl) dL_law_228 hS (fun q h => h.elim) (fun H locs hG hsz hfr hS => ?_)
    replace hWb := hWb.kp (fun q h1 z => hfr q h1 (fun y => y))
    replace hDp := va_at.kept hDp (hfr dp (va_at.lt hDp) (fun y => y))
    replace hPk := va_at.kept hPk (hfr pq (va_at.lt hPk) (fun y => y))
    rw [ra_pk hP (show i < 8 by omega)]
    refine zps (show i < 8 by omega) X C0.1 hPk hS (by show N ≤ pq; omega) dL_law_231 (fun H locs hPk hsz hfr hS => ?_)
    rw [lpq_st i] at hPk
    replace hG := zSA_k hG (fun q hq => hfr q (by omega))
    replace hWb := hWb.kp (fun q h1 z => hfr q (by have := zu_b z; omega))
    replace hDp := va_at.kept hDp (hfr dp (by omega))
    refine lv_iinc (v := nI (i + 1)) (lv' := [(9, .int (nI (i + 1))), (8, .ref pq), (6, .long (zL σ 511 0)), (5, .int (nI j)), (4, .ref dp), (3, .int 1), (2, .int (nI (25 + 4 * j))), (1, .ref N), (0, .ref b)]) hx hb dL_law_232 hl (k := 0) rfl (nI_1 i) (by decide) rfl (fun ls hl => ?_)
    refine lv_goto (tgt := 214) hx hb dL_law_235 (by decide) ?_
    exact ih (i + 1) (by omega) H locs _ _ ls hG hWb hDp hPk hS (lv_sub hl [0, 1, 2, 3, 4, 5, 6, 7, 8] rfl) (by omega) (by omega)
set_option maxRecDepth 100000 in
set_option maxHeartbeats 4000000 in
theorem zlw_rd (X : zX p m c s args RL cL_law) (hml : c.maxLocals = 10) (hl0 : l.stackTraces = false) (C0 : zCx s D cy rf N b L xs ak av) (hL : L ≤ 260) {dp pq j : Nat} {V : Nat → Int64} {σ δ μ τ : zS} (hdp : N + 339 ≤ dp) (hpq : dp < pq) (hj : j < 46) (hP : zP 4 8 3 (15 + 8 * j) j V σ δ μ τ) (kk : ∀ (H : Heap) (locs : List Loc) (cells slots : Nat) (ls : Array Slot) (σ δ μ τ : zS) (V : Nat → Int64), zSA D cy N (zxb N 0 0) (zxa N) σ (zxd N) δ H → zWb D cy N H → zDp D cy dp V H → va_S (zLA N) s.heap H locs → zP 4 8 3 (15 + 8 * (j + 1)) (j + 1) V σ δ μ τ → lv_has ls 10 [(5, .int (nI (j + 1))), (4, .ref dp), (3, .int 1), (2, .int (nI (25 + 4 * (j + 1)))), (1, .ref N), (0, .ref b)] → cells ≤ 400 + 8600 * (j + 1) → slots ≤ 7000 + 52000 * (j + 1) → W p l e room_1 s m args below meth c H locs cells slots Q (F0 m 188 ls [])) {H : Heap} {locs : List Loc} {cells slots : Nat} {ls : Array Slot} (hG : zSA D cy N (zxb N 0 0) (zxa N) σ (zxd N) δ H) (hWb : zWb D cy N H) (hDp : zDp D cy dp V H) (hPk : zPk D cy pq (lpq μ 8) H) (hS : va_S (zLA N) s.heap H locs) (hl : lv_has ls 10 [(8, .ref pq), (6, .long (zL σ 511 0)), (5, .int (nI j)), (4, .ref dp), (3, .int 1), (2, .int (nI (25 + 4 * j))), (1, .ref N), (0, .ref b)]) (hcl : cells ≤ 400 + 8600 * j + 10) (hsl : slots ≤ 7000 + 52000 * j + 62) : W p l e room_1 s m args below meth c H locs cells slots Q (F0 m 238 ls []) := by
  obtain ⟨hx, hb, -, -⟩ := id X
  have hA0 : ∀ q, zLA N q → zLA N q := fun q h => h
  have hL31 : L < 2 ^ 31 := by omega
  refine lv_aload_n hx hb dL_law_238 rfl (lv_at hl 6 rfl) ?_
  refine lv_aload_n hx hb dL_law_239 rfl (lv_at hl 7 rfl) ?_
  refine lv_iload_n hx hb dL_law_240 rfl (lv_at hl 5 rfl) ?_
  refine lv_aload hx hb dL_law_241 (lv_at hl 3 rfl) ?_
  refine zcallL (As := [.ref N, .ref b, .int (nI (25 + 4 * j)), .ref dp]) (rest := []) X hml C0 hA0 ⟨hG, hDp⟩ (ctL_acts l hl0 D cy rf N b L xs ak av hL31 dp hdp (25 + 4 * j) (by omega) hP (by omega) (by omega)) zmL_acts (by decide) m_843 ⟨(Nat.le_of_ble_eq_true rfl), (Nat.le_of_ble_eq_true rfl)⟩ ⟨by show cells + 40 ≤ 649714; omega, by show slots + 240 ≤ 7146033; omega⟩ rfl hl.1 rfl (Nat.le_of_ble_eq_true rfl) dL_law_243 hS (fun q h => zRD_N hdp h) (fun H locs hG hsz hfr hS => ?_)
  obtain ⟨σ1, δ1, μ1, τ1, V1, hG, hDp1, hP1, hRD⟩ := hG
  replace hWb := hWb.kp (fun q h1 z => hfr q h1 (fun y => zRD_b hdp y z))
  replace hPk := va_at.kept hPk (hfr pq (va_at.lt hPk) (fun y => zRD_p hdp hpq y))
  replace hDp := hDp1
  refine zb_eq (tgt := 288) hx hb dL_law_246 (by decide) (fun h => absurd h (by decide)) (fun _ => ?_)
  refine lv_aload_n hx hb dL_law_249 rfl (lv_at hl 6 rfl) ?_
  refine zlV (rest := []) X hml C0 hA0 hG (ctX9_kept l hl0 D cy rf N (zxb N 0 0) (zxa N) σ1 (zxd N) δ1) zmX9_kept (by decide) m_321 ⟨(Nat.le_of_ble_eq_true rfl), (Nat.le_of_ble_eq_true rfl)⟩ ⟨by show cells + 40 + 1 ≤ 649714; omega, by show slots + 240 + 6 ≤ 7146033; omega⟩ hl.1 (Nat.le_of_ble_eq_true rfl) dL_law_250 hS (fun H locs hG hsz hfr hS => ?_)
  replace hWb := hWb.kp (fun q h1 z => hfr q h1)
  replace hDp := va_at.kept hDp (hfr dp (va_at.lt hDp))
  replace hPk := va_at.kept hPk (hfr pq (va_at.lt hPk))
  refine lv_lload hx hb dL_law_253 (lv_at hl 1 rfl) ?_
  refine W.lcmp hx hb dL_law_255 ?_
  refine lv_if_lt (tgt := 288) hx hb dL_law_256 (by decide) (fun h => absurd h (lkept hP hP1 hRD)) (fun b2 => ?_)
  refine lv_aload_n hx hb dL_law_259 rfl (lv_at hl 6 rfl) ?_
  refine lv_aload hx hb dL_law_260 (lv_at hl 0 rfl) ?_
  refine lv_aload hx hb dL_law_262 (lv_at hl 3 rfl) ?_
  refine zcallL (As := [.ref N, .ref pq, .ref dp]) (rest := []) X hml C0 hA0 ⟨hG, hDp, hPk⟩ (ctL_areCanopies l hl0 D cy rf N b L xs ak av dp pq hP1 (by omega) hRD) zmL_areCanopies (by decide) m_1030 ⟨(Nat.le_of_ble_eq_true rfl), (Nat.le_of_ble_eq_true rfl)⟩ ⟨by show cells + 40 + 1 + 8450 ≤ 649714; omega, by show slots + 240 + 6 + 50700 ≤ 7146033; omega⟩ rfl hl.1 rfl (Nat.le_of_ble_eq_true rfl) dL_law_264 hS (fun q h => h.elim) (fun H locs hG hsz hfr hS => ?_)
  replace hWb := hWb.kp (fun q h1 z => hfr q h1 (fun y => y))
  replace hDp := va_at.kept hDp (hfr dp (va_at.lt hDp) (fun y => y))
  replace hPk := va_at.kept hPk (hfr pq (va_at.lt hPk) (fun y => y))
  refine zb_eq (tgt := 288) hx hb dL_law_267 (by decide) (fun h => absurd h (by decide)) (fun _ => ?_)
  refine lv_aload_n hx hb dL_law_270 rfl (lv_at hl 6 rfl) ?_
  refine zcallL (As := [.ref N]) (rest := []) X hml C0 hA0 hG (ctL_areFindings l hl0 D cy rf N b L xs ak av hP1) zmL_areFindings (by decide) m_1211 ⟨(Nat.le_of_ble_eq_true rfl), (Nat.le_of_ble_eq_true rfl)⟩ ⟨by show cells + 40 + 1 + 8450 + 60 ≤ 649714; omega, by show slots + 240 + 6 + 50700 + 360 ≤ 7146033; omega⟩ rfl hl.1 rfl (Nat.le_of_ble_eq_true rfl) dL_law_271 hS (fun q h => h.elim) (fun H locs hG hsz hfr hS => ?_)
  replace hWb := hWb.kp (fun q h1 z => hfr q h1 (fun y => y))
  replace hDp := va_at.kept hDp (hfr dp (va_at.lt hDp) (fun y => y))
  replace hPk := va_at.kept hPk (hfr pq (va_at.lt hPk) (fun y => y))
  refine zb_eq (tgt := 288) hx hb dL_law_274 (by decide) (fun h => absurd h (by decide)) (fun _ => ?_)
  refine lv_aload_n hx hb dL_law_277 rfl (lv_at hl 6 rfl) ?_
  refine zlS (rest := []) X hml C0 hG hWb hP1 m_325 ⟨(Nat.le_of_ble_eq_true rfl), (Nat.le_of_ble_eq_true rfl)⟩ ⟨by show cells + 40 + 1 + 8450 + 60 ≤ 649714; omega, by show slots + 240 + 6 + 50700 + 360 ≤ 7146033; omega⟩ hl.1 (Nat.le_of_ble_eq_true rfl) dL_law_278 hS (fun H locs hG hWb hsz hfr hS => ?_)
  replace hDp := va_at.kept hDp (hfr dp (va_at.lt hDp) (fun z => by have := zu_b z; omega))
  refine zb_eq (tgt := 288) hx hb dL_law_281 (by decide) (fun h => absurd h (by decide)) (fun _ => ?_)
  refine lv_iconst (v := 1) hx hb dL_law_284 (by decide) ?_
  refine lv_goto (tgt := 289) hx hb dL_law_285 (by decide) ?_
  refine lv_istore_n (lv' := [(3, .int 1), (8, .ref pq), (6, .long (zL σ 511 0)), (5, .int (nI j)), (4, .ref dp), (2, .int (nI (25 + 4 * j))), (1, .ref N), (0, .ref b)]) hx hb dL_law_289 rfl hl (by decide) rfl (fun ls hl => ?_)
  refine lv_iinc (v := nI (25 + 4 * (j + 1))) (lv' := [(2, .int (nI (25 + 4 * (j + 1)))), (3, .int 1), (8, .ref pq), (6, .long (zL σ 511 0)), (5, .int (nI j)), (4, .ref dp), (1, .ref N), (0, .ref b)]) hx hb dL_law_290 hl (k := 5) rfl (show nI (25 + 4 * j) + 4 = nI (25 + 4 * (j + 1)) from by rw [show (4 : Int32) = nI 4 from rfl, nI_add]; exact congrArg nI (by omega)) (by decide) rfl (fun ls hl => ?_)
  refine lv_iinc (v := nI (j + 1)) (lv' := [(5, .int (nI (j + 1))), (2, .int (nI (25 + 4 * (j + 1)))), (3, .int 1), (8, .ref pq), (6, .long (zL σ 511 0)), (4, .ref dp), (1, .ref N), (0, .ref b)]) hx hb dL_law_293 hl (k := 4) rfl (nI_1 j) (by decide) rfl (fun ls hl => ?_)
  refine lv_goto (tgt := 188) hx hb dL_law_296 (by decide) ?_
  exact kk H locs _ _ ls σ1 δ1 μ1 τ1 V1 hG hWb hDp hS (hP1.up (by omega) (Nat.le_refl _)) (lv_sub hl [0, 5, 2, 1, 6, 7] rfl) (by omega) (by omega)
set_option maxRecDepth 100000 in
set_option maxHeartbeats 4000000 in
theorem zlw_rs (X : zX p m c s args RL cL_law) (hml : c.maxLocals = 10) (hl0 : l.stackTraces = false) (C0 : zCx s D cy rf N b L xs ak av) (hL : L ≤ 260) {dp : Nat} (hdp : N + 339 ≤ dp) (kk : ∀ (H : Heap) (locs : List Loc) (cells slots : Nat) (ls : Array Slot) (σ δ μ τ : zS) (V : Nat → Int64), zSA D cy N (zxb N 0 0) (zxa N) σ (zxd N) δ H → zWb D cy N H → zDp D cy dp V H → va_S (zLA N) s.heap H locs → zP 4 8 3 (15 + 8 * 46) 46 V σ δ μ τ → lv_has ls 10 [(5, .int (nI 46)), (4, .ref dp), (3, .int 1), (2, .int (nI (25 + 4 * 46))), (1, .ref N), (0, .ref b)] → cells ≤ 400 + 8600 * 46 → slots ≤ 7000 + 52000 * 46 → W p l e room_1 s m args below meth c H locs cells slots Q (F0 m 299 ls [])) : ∀ (r j : Nat), j + r = 46 → ∀ (H : Heap) (locs : List Loc) (cells slots : Nat) (ls : Array Slot) (σ δ μ τ : zS) (V : Nat → Int64), zSA D cy N (zxb N 0 0) (zxa N) σ (zxd N) δ H → zWb D cy N H → zDp D cy dp V H → va_S (zLA N) s.heap H locs → zP 4 8 3 (15 + 8 * j) j V σ δ μ τ → lv_has ls 10 [(5, .int (nI j)), (4, .ref dp), (3, .int 1), (2, .int (nI (25 + 4 * j))), (1, .ref N), (0, .ref b)] → cells ≤ 400 + 8600 * j → slots ≤ 7000 + 52000 * j → W p l e room_1 s m args below meth c H locs cells slots Q (F0 m 188 ls []) := by
  obtain ⟨hx, hb, -, -⟩ := id X
  have hA0 : ∀ q, zLA N q → zLA N q := fun q h => h
  have hL31 : L < 2 ^ 31 := by omega
  intro r
  induction r with
  | zero =>
    intro j hj H locs cells slots ls σ δ μ τ V hG hWb hDp hS hP hl hcl hsl
    have hj : j = 46 := hj
    subst hj
    refine lv_iload hx hb dL_law_188 (lv_at hl 0 rfl) ?_
    refine lv_bipush (v := 46) hx hb dL_law_190 (by decide) ?_
    refine lv_icmp_ge (tgt := 299) hx hb dL_law_192 (by decide) (fun b1 => ?_) (fun h => absurd (Int32.le_refl _) h)
    exact kk H locs _ _ ls σ δ μ τ V hG hWb hDp hS hP (lv_sub hl [0, 1, 2, 3, 4, 5] rfl) hcl hsl
  | succ r ih =>
    intro j hj H locs cells slots ls σ δ μ τ V hG hWb hDp hS hP hl hcl hsl
    refine lv_iload hx hb dL_law_188 (lv_at hl 0 rfl) ?_
    refine lv_bipush (v := 46) hx hb dL_law_190 (by decide) ?_
    refine lv_icmp_ge (tgt := 299) hx hb dL_law_192 (by decide) (fun h => absurd h (fun z => absurd ((nI_leI (a := 46) (b := j) (by decide) (by omega)).mp z) (by omega))) (fun b1 => ?_)
    refine lv_iload_n hx hb dL_law_195 rfl (lv_at hl 2 rfl) ?_
    refine lv_if_eq (tgt := 299) hx hb dL_law_196 (by decide) (fun h => absurd h (by decide)) (fun _ => ?_)
    refine lv_aload_n hx hb dL_law_199 rfl (lv_at hl 4 rfl) ?_
    refine zlV (rest := []) X hml C0 hA0 hG (ctX9_kept l hl0 D cy rf N (zxb N 0 0) (zxa N) σ (zxd N) δ) zmX9_kept (by decide) m_321 ⟨(Nat.le_of_ble_eq_true rfl), (Nat.le_of_ble_eq_true rfl)⟩ ⟨by show cells + 1 ≤ 649714; omega, by show slots + 6 ≤ 7146033; omega⟩ hl.1 (Nat.le_of_ble_eq_true rfl) dL_law_200 hS (fun H locs hG hsz hfr hS => ?_)
    replace hWb := hWb.kp (fun q h1 z => hfr q h1)
    replace hDp := va_at.kept hDp (hfr dp (va_at.lt hDp))
    refine lv_lstore (lv' := [(6, .long (zL σ 511 0)), (5, .int (nI j)), (4, .ref dp), (3, .int 1), (2, .int (nI (25 + 4 * j))), (1, .ref N), (0, .ref b)]) hx hb dL_law_203 hl (by decide) rfl (fun ls hl => ?_)
    refine lv_bipush (v := 8) hx hb dL_law_205 (by decide) ?_
    obtain ⟨pq, hpqe⟩ : ∃ d : Nat, H.size = d := ⟨_, rfl⟩
    have hpq : dp < pq := by have := va_at.lt hDp; omega
    refine zkNI (h := pq) (N := 8) X C0.1 m_75 (by decide) rfl (by decide) ⟨by show cells + 1 + 1 ≤ 649714; omega, by show slots + 6 + 8 ≤ 7146033; omega⟩ hpqe hS dL_law_207 (fun H hPk hz2 ho2 hS => ?_)
    replace hG := zSA_k hG (fun q hq => ho2 q (by omega))
    replace hWb := hWb.kp (fun q h1 z => ho2 q (by omega))
    replace hDp := va_at.kept hDp (ho2 dp hpq)
    have hPk : zPk D cy pq (lpq μ 0) H := by rw [lpq_0]; exact hPk
    refine lv_astore (lv' := [(8, .ref pq), (6, .long (zL σ 511 0)), (5, .int (nI j)), (4, .ref dp), (3, .int 1), (2, .int (nI (25 + 4 * j))), (1, .ref N), (0, .ref b)]) hx hb dL_law_209 hl (by decide) rfl (fun ls hl => ?_)
    refine lv_iconst (v := 0) hx hb dL_law_211 (by decide) ?_
    refine lv_istore (lv' := [(9, .int 0), (8, .ref pq), (6, .long (zL σ 511 0)), (5, .int (nI j)), (4, .ref dp), (3, .int 1), (2, .int (nI (25 + 4 * j))), (1, .ref N), (0, .ref b)]) hx hb dL_law_212 hl (by decide) rfl (fun ls hl => ?_)
    exact zlw_pk X hml hl0 C0 hL hdp hpq (show j < 46 by omega) (cb := 400 + 8600 * j + 2) (sb := 7000 + 52000 * j + 14) (by omega) (by omega) hP (fun H locs cells slots ls hG hWb hDp hPk hS hl hcl hsl => zlw_rd X hml hl0 C0 hL hdp hpq (show j < 46 by omega) hP (fun H locs cells slots ls σ δ μ τ V hG hWb hDp hS hP hl hcl hsl => ih (j + 1) (by omega) H locs cells slots ls σ δ μ τ V hG hWb hDp hS hP hl hcl hsl) hG hWb hDp hPk hS hl (by omega) (by omega)) 8 0 rfl H locs _ _ ls hG hWb hDp hPk hS (lv_sub hl [0, 1, 2, 3, 4, 5, 6, 7, 8] rfl) (by omega) (by omega)
set_option maxRecDepth 100000 in
set_option maxHeartbeats 4000000 in
theorem zlw_299 (X : zX p m c s args RL cL_law) (hml : c.maxLocals = 10) (hl0 : l.stackTraces = false) (C0 : zCx s D cy rf N b L xs ak av) (hL : L ≤ 260) {dp : Nat} (kx : ∀ (H : Heap) (locs : List Loc) (cells slots : Nat) (ls : Array Slot), va_S (zLA N) s.heap H locs → cells ≤ 649714 → slots ≤ 7146033 → W p l e room_1 s m args below meth c H locs cells slots Q (F0 m 315 ls [.int 1])) {H : Heap} {locs : List Loc} {cells slots : Nat} {ls : Array Slot} {σ δ μ τ : zS} {V : Nat → Int64} (hG : zSA D cy N (zxb N 0 0) (zxa N) σ (zxd N) δ H) (hS : va_S (zLA N) s.heap H locs) (hP : zP 4 8 3 (15 + 8 * 46) 46 V σ δ μ τ) (hl : lv_has ls 10 [(5, .int (nI 46)), (4, .ref dp), (3, .int 1), (2, .int (nI (25 + 4 * 46))), (1, .ref N), (0, .ref b)]) (hcl : cells ≤ 400 + 8600 * 46) (hsl : slots ≤ 7000 + 52000 * 46) : W p l e room_1 s m args below meth c H locs cells slots Q (F0 m 299 ls []) := by
  obtain ⟨hx, hb, -, -⟩ := id X
  have hA0 : ∀ q, zLA N q → zLA N q := fun q h => h
  have hL31 : L < 2 ^ 31 := by omega
  refine lv_iload_n hx hb dL_law_299 rfl (lv_at hl 2 rfl) ?_
  refine lv_if_eq (tgt := 314) hx hb dL_law_300 (by decide) (fun h => absurd h (by decide)) (fun _ => ?_)
  refine lv_aload_n hx hb dL_law_303 rfl (lv_at hl 4 rfl) ?_
  refine zcallL (As := [.ref N]) (rest := []) X hml C0 hA0 hG (ctL_isThrown l hl0 D cy rf N b L xs ak av hP (by omega)) zmL_isThrown (by decide) m_1214 ⟨(Nat.le_of_ble_eq_true rfl), (Nat.le_of_ble_eq_true rfl)⟩ ⟨by show cells + 30 ≤ 649714; omega, by show slots + 180 ≤ 7146033; omega⟩ rfl hl.1 rfl (Nat.le_of_ble_eq_true rfl) dL_law_304 hS (fun q h => by have := zu_ra h; show N ≤ q; omega) (fun H locs hG hsz hfr hS => ?_)
  refine zb_eq (tgt := 314) hx hb dL_law_307 (by decide) (fun h => absurd h (by decide)) (fun _ => ?_)
  refine lv_iconst (v := 1) hx hb dL_law_310 (by decide) ?_
  refine lv_goto (tgt := 315) hx hb dL_law_311 (by decide) ?_
  exact kx H locs _ _ ls hS (by omega) (by omega)
set_option maxRecDepth 100000 in
set_option maxHeartbeats 4000000 in
theorem zlw_148 (X : zX p m c s args RL cL_law) (hml : c.maxLocals = 10) (hl0 : l.stackTraces = false) (C0 : zCx s D cy rf N b L xs ak av) (hL : L ≤ 260) (kx : ∀ (H : Heap) (locs : List Loc) (cells slots : Nat) (ls : Array Slot), va_S (zLA N) s.heap H locs → cells ≤ 649714 → slots ≤ 7146033 → W p l e room_1 s m args below meth c H locs cells slots Q (F0 m 315 ls [.int 1])) : ∀ (H : Heap) (locs : List Loc) (cells slots : Nat) (ls : Array Slot) (σ δ μ τ : zS), zSA D cy N (zxb N 0 0) (zxa N) σ (zxd N) δ H → zWb D cy N H → va_S (zLA N) s.heap H locs → N + 339 ≤ H.size → zP 4 8 0 (4 + 8) 0 V0 σ δ μ τ → lv_has ls 10 [(4, .int (nI 8)), (3, .int 1), (2, .int (nI (9 + 2 * 8))), (1, .ref N), (0, .ref b)] → cells ≤ 343 + 8 → slots ≤ 6509 + 6 * 8 → W p l e room_1 s m args below meth c H locs cells slots Q (F0 m 148 ls []) := by
  obtain ⟨hx, hb, -, -⟩ := id X
  have hA0 : ∀ q, zLA N q → zLA N q := fun q h => h
  have hL31 : L < 2 ^ 31 := by omega
  intro H locs cells slots ls σ δ μ τ hG hWb hS hz hP hl hcl hsl
  refine lv_iload_n hx hb dL_law_148 rfl (lv_at hl 1 rfl) ?_
  refine lv_aload_n hx hb dL_law_149 rfl (lv_at hl 3 rfl) ?_
  refine zlW (As := [.ref N]) (rest := [.int 1]) X hml C0 hA0 hG (ctL_load l hl0 D cy rf N (zxb N 0 0) (zxa N) σ (zxd N) δ zu_J  hP.zv hP.dc (hP.df (by omega))) zmL_load (by decide) m_802 ⟨(Nat.le_of_ble_eq_true rfl), (Nat.le_of_ble_eq_true rfl)⟩ ⟨by show cells + 1 ≤ 649714; omega, by show slots + 6 ≤ 7146033; omega⟩ rfl hl.1 rfl (Nat.le_of_ble_eq_true rfl) dL_law_150 hS (fun q h => by have := zu_ra h; show N ≤ q; omega) (fun H locs hG hsz hfr hS => ?_)
  replace hWb := hWb.kp (fun q h1 z => hfr q h1 (fun y => by have := zu_ra y; have := zu_b z; omega))
  replace hz := Nat.le_trans hz hsz
  obtain ⟨hF, μ_4, τ_4, hP_4⟩ := pf_8 hP (by omega) (by omega)
  rw [hF]
  generalize k_nS σ 8 0 0 0 0 = σ_4 at hG hP_4
  generalize k_nD σ δ 8 0 0 0 0 = δ_4 at hG hP_4
  refine lv_if_ne (tgt := 176) hx hb dL_law_153 (by decide) (fun h => absurd h (not_not_intro rfl)) (fun b1 => ?_)
  refine lv_aload_n hx hb dL_law_156 rfl (lv_at hl 3 rfl) ?_
  refine zlW (As := [.ref N]) (rest := [.int 1]) X hml C0 hA0 hG (ctL_load l hl0 D cy rf N (zxb N 0 0) (zxa N) σ_4 (zxd N) δ_4 zu_J  hP_4.zv hP_4.dc (hP_4.df (by omega))) zmL_load (by decide) m_802 ⟨(Nat.le_of_ble_eq_true rfl), (Nat.le_of_ble_eq_true rfl)⟩ ⟨by show cells + 1 + 1 ≤ 649714; omega, by show slots + 6 + 6 ≤ 7146033; omega⟩ rfl hl.1 rfl (Nat.le_of_ble_eq_true rfl) dL_law_157 hS (fun q h => by have := zu_ra h; show N ≤ q; omega) (fun H locs hG hsz hfr hS => ?_)
  replace hWb := hWb.kp (fun q h1 z => hfr q h1 (fun y => by have := zu_ra y; have := zu_b z; omega))
  replace hz := Nat.le_trans hz hsz
  obtain ⟨hF, μ_5, τ_5, hP_5⟩ := pf_8 hP_4 (by omega) (by omega)
  rw [hF]
  generalize k_nS σ_4 8 0 0 0 0 = σ_5 at hG hP_5
  generalize k_nD σ_4 δ_4 8 0 0 0 0 = δ_5 at hG hP_5
  refine lv_iconst (v := 1) hx hb dL_law_160 (by decide) ?_
  refine lv_icmp_ne (tgt := 176) hx hb dL_law_161 (by decide) (fun h => absurd h (not_not_intro rfl)) (fun b2 => ?_)
  refine lv_aload_n hx hb dL_law_164 rfl (lv_at hl 3 rfl) ?_
  refine zlW (As := [.ref N]) (rest := [.int 1]) X hml C0 hA0 hG (ctL_load l hl0 D cy rf N (zxb N 0 0) (zxa N) σ_5 (zxd N) δ_5 zu_J  hP_5.zv hP_5.dc (hP_5.df (by omega))) zmL_load (by decide) m_802 ⟨(Nat.le_of_ble_eq_true rfl), (Nat.le_of_ble_eq_true rfl)⟩ ⟨by show cells + 1 + 1 + 1 ≤ 649714; omega, by show slots + 6 + 6 + 6 ≤ 7146033; omega⟩ rfl hl.1 rfl (Nat.le_of_ble_eq_true rfl) dL_law_165 hS (fun q h => by have := zu_ra h; show N ≤ q; omega) (fun H locs hG hsz hfr hS => ?_)
  replace hWb := hWb.kp (fun q h1 z => hfr q h1 (fun y => by have := zu_ra y; have := zu_b z; omega))
  replace hz := Nat.le_trans hz hsz
  obtain ⟨hF, μ_6, τ_6, hP_6⟩ := pf_8 hP_5 (by omega) (by omega)
  rw [hF]
  generalize k_nS σ_5 8 0 0 0 0 = σ_6 at hG hP_6
  generalize k_nD σ_5 δ_5 8 0 0 0 0 = δ_6 at hG hP_6
  refine lv_iconst (v := 2) hx hb dL_law_168 (by decide) ?_
  refine lv_icmp_ne (tgt := 176) hx hb dL_law_169 (by decide) (fun h => absurd h (not_not_intro rfl)) (fun b3 => ?_)
  refine lv_iconst (v := 1) hx hb dL_law_172 (by decide) ?_
  refine lv_goto (tgt := 177) hx hb dL_law_173 (by decide) ?_
  refine lv_iand hx hb dL_law_177 ?_
  rw [show (1 &&& 1 : Int32) = 1 from (by decide)]
  refine lv_istore_n (lv' := [(3, .int 1), (4, .int (nI 8)), (2, .int (nI (9 + 2 * 8))), (1, .ref N), (0, .ref b)]) hx hb dL_law_178 rfl hl (by decide) rfl (fun ls hl => ?_)
  refine lv_bipush (v := 8) hx hb dL_law_179 (by decide) ?_
  obtain ⟨dp, hdpe⟩ : ∃ d : Nat, H.size = d := ⟨_, rfl⟩
  rw [hdpe] at hz
  refine zkNL (h := dp) (N := 8) X C0.1 m_1224 (by decide) rfl (by decide) ⟨by show cells + 1 + 1 + 1 + 1 ≤ 649714; omega, by show slots + 6 + 6 + 6 + 8 ≤ 7146033; omega⟩ hdpe hS dL_law_181 (fun H hDp hz2 ho2 hS => ?_)
  replace hG := zSA_k hG (fun q hq => ho2 q (by omega))
  replace hWb := hWb.kp (fun q h1 z => ho2 q (by omega))
  have hDp : zDp D cy dp V0 H := hDp
  refine lv_astore (lv' := [(4, .ref dp), (3, .int 1), (2, .int (nI (9 + 2 * 8))), (1, .ref N), (0, .ref b)]) hx hb dL_law_183 hl (by decide) rfl (fun ls hl => ?_)
  refine lv_iconst (v := 0) hx hb dL_law_185 (by decide) ?_
  refine lv_istore (lv' := [(5, .int 0), (4, .ref dp), (3, .int 1), (2, .int (nI (9 + 2 * 8))), (1, .ref N), (0, .ref b)]) hx hb dL_law_186 hl (by decide) rfl (fun ls hl => ?_)
  exact zlw_rs X hml hl0 C0 hL (dp := dp) hz (fun H locs cells slots ls σ δ μ τ V hG hWb hDp hS hP hl hcl hsl => zlw_299 X hml hl0 C0 hL kx hG hS hP hl hcl hsl) 46 0 rfl H locs _ _ ls σ_6 δ_6 μ_6 τ_6 V0 hG hWb hDp hS (hP_6.up (by decide) (Nat.le_refl _)) (lv_sub hl [0, 1, 2, 3, 4, 5] rfl) (by omega) (by omega)
set_option maxRecDepth 100000 in
set_option maxHeartbeats 4000000 in
theorem zlw_0 (hNs : s.heap.size = N) (X : zX p m c s args RL cL_law) (hml : c.maxLocals = 10) (hl0 : l.stackTraces = false) (C0 : zCx s D cy rf N b L xs ak av) (hL : L ≤ 260) (hCP : zCP s) (kx : ∀ (H : Heap) (locs : List Loc) (cells slots : Nat) (ls : Array Slot), va_S (zLA N) s.heap H locs → cells ≤ 649714 → slots ≤ 7146033 → W p l e room_1 s m args below meth c H locs cells slots Q (F0 m 315 ls [.int 1])) {ls : Array Slot} (hl : lv_has ls 10 [(0, .ref b)]) : W p l e room_1 s m args below meth c s.heap [] 0 0 Q (F0 m 0 ls []) := by
  obtain ⟨hx, hb, -, -⟩ := id X
  have hS : va_S (zLA N) s.heap s.heap [] := va_S.rf
  have hK := C0.1
  refine zkNO (h := N) (ci := 7) (fs := [.null, .null, .null]) X hK rfl zin7 tyX9 tyX9_ok m_28 m_29 m_1 (by decide) ⟨Nat.le_of_ble_eq_true rfl, Nat.le_of_ble_eq_true rfl⟩ hNs hS dL_law_0 (fun H hn0 hz1 ho1 hS => ?_)
  refine lv_dup hx hb dL_law_3 rfl ?_
  refine zcallC (rest := [.ref N]) X hml hK hCP ⟨hn0, hz1⟩ (ctX9_init l D cy N (N + 1) (by omega)) ziX9_init (by decide) m_30 ⟨Nat.le_of_ble_eq_true rfl, Nat.le_of_ble_eq_true rfl⟩ ⟨Nat.le_of_ble_eq_true rfl, Nat.le_of_ble_eq_true rfl⟩ hl.1 (Nat.le_of_ble_eq_true rfl) dL_law_4 hS (fun q hq => by show N ≤ q; rcases hq with h | h <;> omega) (fun H locs hG hsz2 ho hS => ?_)
  obtain ⟨hSS, hsz⟩ := hG
  have hSS : zSS D cy N (zxa N) (zS0 510) (zxb N) (zS0 510) (zxd N) (zS0 0) H := hSS
  have hG : zSA D cy N (zxb N 0 0) (zxa N) (zS0 510) (zxd N) (zS0 0) H := ⟨hSS.1, hSS.2.1, hSS.2.2.2⟩
  have hWb : zWb D cy N H := ⟨_, hSS.2.2.1⟩
  have hz : N + 339 ≤ H.size := by omega
  refine lv_astore_n (lv' := [(1, .ref N), (0, .ref b)]) hx hb dL_law_7 rfl hl (by decide) rfl (fun ls hl => ?_)
  refine lv_iconst (v := 1) hx hb dL_law_8 (by decide) ?_
  refine lv_istore_n (lv' := [(2, .int 1), (1, .ref N), (0, .ref b)]) hx hb dL_law_9 rfl hl (by decide) rfl (fun ls hl => ?_)
  refine lv_iconst (v := 1) hx hb dL_law_10 (by decide) ?_
  refine lv_istore_n (lv' := [(3, .int 1), (2, .int 1), (1, .ref N), (0, .ref b)]) hx hb dL_law_11 rfl hl (by decide) rfl (fun ls hl => ?_)
  refine lv_iconst (v := 0) hx hb dL_law_12 (by decide) ?_
  refine lv_istore (lv' := [(4, .int 0), (3, .int 1), (2, .int 1), (1, .ref N), (0, .ref b)]) hx hb dL_law_13 hl (by decide) rfl (fun ls hl => ?_)
  refine zlw_1 X hml hl0 C0 hL (fun H locs cells slots ls σ δ μ τ hG hWb hS hz hP hl hcl hsl => ?_) 4 0 rfl H locs _ _ ls (zS0 510) (zS0 0) (zS0 845) zt0 hG hWb hS hz zP_start (show lv_has ls 10 [(4, .int (nI 0)), (3, .int 1), (2, .int (nI (1 + 2 * 0))), (1, .ref N), (0, .ref b)] from lv_sub hl [0, 1, 2, 3, 4] rfl) (by decide) (by decide)
  refine lv_iconst (v := 0) hx hb dL_law_71 (by decide) ?_
  refine lv_istore (lv' := [(4, .int 0), (3, .int 1), (2, .int (nI (1 + 2 * 4))), (1, .ref N), (0, .ref b)]) hx hb dL_law_72 hl (by decide) rfl (fun ls hl => ?_)
  exact zlw_2 X hml hl0 C0 hL (zlw_148 X hml hl0 C0 hL kx) 8 0 rfl H locs _ _ ls σ δ μ τ hG hWb hS hz hP (show lv_has ls 10 [(4, .int (nI 0)), (3, .int 1), (2, .int (nI (9 + 2 * 0))), (1, .ref N), (0, .ref b)] from lv_sub hl [0, 1, 2, 3, 4] rfl) (by omega) (by omega)
end ZLL
