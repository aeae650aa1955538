section ZFN
variable {p : Program} {l : Launch} {e : Env} {s : State} {m : MethodId} {args : Array Value} {below : List Frame} {meth : Method} {c : Code} {H : Heap} {locs : List Loc} {cells slots : Nat} {ls : Array Slot} {D : va_G} {cy : Nat → ClassId} {rf : Nat → Nat} {N b L dp pq : Nat} {xs : Nat → Int32} {ak av : Nat → Nat} {σ δ μ τ μ0 : zS} {K bb c1 : Nat} {V : Nat → Int64}
/-! AREFINDINGS -/
theorem gnd_in {f : Nat} (h : f < zn μ 843) : gnd μ f = nI (y_cntG μ f) := by unfold gnd; rw [if_pos h]
theorem gnd_out {f : Nat} (h : ¬ f < zn μ 843) : gnd μ f = -77 := by unfold gnd; rw [if_neg h]
theorem nf_12 (hP : zP 4 8 3 K bb V σ δ μ τ) : zn μ 843 ≤ 12 := hP.2.1.1.2.2.2.2.2
def ldn (μ : zS) (n : Nat) : Nat := zct (y_down μ) n
theorem ldn_1 (n : Nat) : nI (ldn μ n) + bI (y_down μ n) = nI (ldn μ (n + 1)) := by
  have e : ldn μ (n + 1) = ldn μ n + if y_down μ n = true then 1 else 0 := by
    show zct _ (n + 1) = _
    rw [zct]
    cases y_down μ n <;> rfl
  rw [e]
  cases y_down μ n
  · exact Int32.add_zero _
  · exact nI_1 _
theorem ldn_le : ldn μ 8 ≤ 8 := zct_le _ _
set_option maxRecDepth 100000 in
set_option maxHeartbeats 4000000 in
theorem zfn_in (X : zX p m c s args RL cL_areFindings) (hml : c.maxLocals = 4) (hr : meth.sig.returnType = some .boolean) (hlocks : meth.locks = false) (hl0 : l.stackTraces = false) (C0 : zCx s D cy rf N b L xs ak av) (hP : zP 4 8 3 K bb V σ δ μ τ) {Q : State → Prop} (kk : ∀ (H : Heap) (locs : List Loc) (cells slots : Nat) (ls : Array Slot), zSA D cy N (zxb N 0 0) (zxa N) σ (zxd N) δ H → va_S (fun _ => False) s.heap H locs → lv_has ls 4 [(1, .int (nI (fsum μ (zn μ 843)))), (0, .ref N)] → cells ≤ 2 * 12 + 1 → slots ≤ 6 * (2 * 12 + 1) → W p l e (zrx 10 60 360) s m args below meth c H locs cells slots Q (F0 m 32 ls [])) : ∀ (k j : Nat), j + k = zn μ 843 → ∀ (H : Heap) (locs : List Loc) (cells slots : Nat) (ls : Array Slot), zSA D cy N (zxb N 0 0) (zxa N) σ (zxd N) δ H → va_S (fun _ => False) s.heap H locs → lv_has ls 4 [(2, .int (nI j)), (1, .int (nI (fsum μ j))), (0, .ref N)] → cells ≤ 2 * j → slots ≤ 6 * (2 * j) → W p l e (zrx 10 60 360) s m args below meth c H locs cells slots Q (F0 m 4 ls []) := by
  obtain ⟨hx, hb, -, -⟩ := id X
  have hA0 : ∀ q : Nat, (fun _ => False) q → zLA N q := fun q h => h.elim
  have hnf := nf_12 hP
  intro k
  induction k with
  | zero =>
    intro j hj H locs cells slots ls hG hS hl hcl hsl
    have hj : j = zn μ 843 := hj
    subst hj
    refine lv_iload_n hx hb dL_areFindings_4 rfl (lv_at hl 0 rfl) ?_
    refine lv_bipush (v := 12) hx hb dL_areFindings_5 (by decide) ?_
    refine lv_icmp_ge (tgt := 32) hx hb dL_areFindings_7 (by decide) (fun b1 => ?_) (fun b1 => ?_)
    · exact kk H locs _ _ ls hG hS (lv_sub hl [1, 2] rfl) (by omega) (by omega)
    · refine lv_aload_n hx hb dL_areFindings_10 rfl (lv_at hl 2 rfl) ?_
      refine lv_iload_n hx hb dL_areFindings_11 rfl (lv_at hl 0 rfl) ?_
      refine zlW (As := [.ref N, .int (nI (zn μ 843))]) (rest := []) X hml C0 hA0 hG (ctL_grounds l hl0 D cy rf N (zxb N 0 0) (zxa N) σ (zxd N) δ (nI (zn μ 843)) hP.zv) zmL_grounds (by decide) m_933 ⟨(Nat.le_of_ble_eq_true rfl), (Nat.le_of_ble_eq_true rfl)⟩ ⟨by show cells + 1 ≤ 60; omega, by show slots + 6 ≤ 360; omega⟩ rfl hl.1 rfl (Nat.le_of_ble_eq_true rfl) dL_areFindings_12 hS (fun q h => h.elim) (fun H locs hG hsz hfr hS => ?_)
      rw [ra_gf hP (show (zn μ 843) < 1000 by omega)]
      rw [gnd_out (Nat.lt_irrefl _)]
      refine lv_if_lt (tgt := 32) hx hb dL_areFindings_15 (by decide) (fun _ => ?_) (fun h => absurd h (by decide))
      exact kk H locs _ _ ls hG hS (lv_sub hl [1, 2] rfl) (by omega) (by omega)
  | succ k ih =>
    intro j hj H locs cells slots ls hG hS hl hcl hsl
    refine lv_iload_n hx hb dL_areFindings_4 rfl (lv_at hl 0 rfl) ?_
    refine lv_bipush (v := 12) hx hb dL_areFindings_5 (by decide) ?_
    refine lv_icmp_ge (tgt := 32) hx hb dL_areFindings_7 (by decide) (fun h => absurd h (fun z => absurd ((nI_leI (a := 12) (b := j) (by decide) (by omega)).mp z) (by omega))) (fun b1 => ?_)
    refine lv_aload_n hx hb dL_areFindings_10 rfl (lv_at hl 2 rfl) ?_
    refine lv_iload_n hx hb dL_areFindings_11 rfl (lv_at hl 0 rfl) ?_
    refine zlW (As := [.ref N, .int (nI j)]) (rest := []) X hml C0 hA0 hG (ctL_grounds l hl0 D cy rf N (zxb N 0 0) (zxa N) σ (zxd N) δ (nI j) hP.zv) zmL_grounds (by decide) m_933 ⟨(Nat.le_of_ble_eq_true rfl), (Nat.le_of_ble_eq_true rfl)⟩ ⟨by show cells + 1 ≤ 60; omega, by show slots + 6 ≤ 360; omega⟩ rfl hl.1 rfl (Nat.le_of_ble_eq_true rfl) dL_areFindings_12 hS (fun q h => h.elim) (fun H locs hG hsz hfr hS => ?_)
    rw [ra_gf hP (show j < 1000 by omega)]
    rw [gnd_in (show j < zn μ 843 by omega)]
    refine lv_if_lt (tgt := 32) hx hb dL_areFindings_15 (by decide) (fun h => absurd h (nI_pos (by have := cntG_le hP j; omega))) (fun b2 => ?_)
    refine lv_iload_n hx hb dL_areFindings_18 rfl (lv_at hl 1 rfl) ?_
    refine lv_aload_n hx hb dL_areFindings_19 rfl (lv_at hl 2 rfl) ?_
    refine lv_iload_n hx hb dL_areFindings_20 rfl (lv_at hl 0 rfl) ?_
    refine zlW (As := [.ref N, .int (nI j)]) (rest := [.int (nI (fsum μ j))]) X hml C0 hA0 hG (ctL_grounds l hl0 D cy rf N (zxb N 0 0) (zxa N) σ (zxd N) δ (nI j) hP.zv) zmL_grounds (by decide) m_933 ⟨(Nat.le_of_ble_eq_true rfl), (Nat.le_of_ble_eq_true rfl)⟩ ⟨by show cells + 1 + 1 ≤ 60; omega, by show slots + 6 + 6 ≤ 360; omega⟩ rfl hl.1 rfl (Nat.le_of_ble_eq_true rfl) dL_areFindings_21 hS (fun q h => h.elim) (fun H locs hG hsz hfr hS => ?_)
    rw [ra_gf hP (show j < 1000 by omega)]
    rw [gnd_in (show j < zn μ 843 by omega)]
    refine lv_iadd hx hb dL_areFindings_24 ?_
    rw [show ((nI (fsum μ j)) + (nI (y_cntG μ j)) : Int32) = nI (fsum μ (j + 1)) from (nI_add _ _)]
    refine lv_istore_n (lv' := [(1, .int (nI (fsum μ (j + 1)))), (2, .int (nI j)), (0, .ref N)]) hx hb dL_areFindings_25 rfl hl (by decide) rfl (fun ls hl => ?_)
    refine lv_iinc (v := nI (j + 1)) (lv' := [(2, .int (nI (j + 1))), (1, .int (nI (fsum μ (j + 1)))), (0, .ref N)]) hx hb dL_areFindings_26 hl (k := 1) rfl (nI_1 j) (by decide) rfl (fun ls hl => ?_)
    refine lv_goto (tgt := 4) hx hb dL_areFindings_29 (by decide) ?_
    exact ih (j + 1) (by omega) H locs _ _ ls hG hS (lv_sub hl [0, 1, 2] rfl) (by omega) (by omega)
set_option maxRecDepth 100000 in
set_option maxHeartbeats 4000000 in
theorem zfn_dn (X : zX p m c s args RL cL_areFindings) (hml : c.maxLocals = 4) (hr : meth.sig.returnType = some .boolean) (hlocks : meth.locks = false) (hl0 : l.stackTraces = false) (C0 : zCx s D cy rf N b L xs ak av) (hP : zP 4 8 3 K bb V σ δ μ τ) {Q : State → Prop} (kk : ∀ (H : Heap) (locs : List Loc) (cells slots : Nat) (ls : Array Slot), zSA D cy N (zxb N 0 0) (zxa N) σ (zxd N) δ H → va_S (fun _ => False) s.heap H locs → lv_has ls 4 [(2, .int (nI (ldn μ 8))), (1, .int (nI (fsum μ (zn μ 843)))), (0, .ref N)] → cells ≤ 33 → slots ≤ 6 * 33 → W p l e (zrx 10 60 360) s m args below meth c H locs cells slots Q (F0 m 56 ls [])) : ∀ (k j : Nat), j + k = 8 → ∀ (H : Heap) (locs : List Loc) (cells slots : Nat) (ls : Array Slot), zSA D cy N (zxb N 0 0) (zxa N) σ (zxd N) δ H → va_S (fun _ => False) s.heap H locs → lv_has ls 4 [(3, .int (nI j)), (2, .int (nI (ldn μ j))), (1, .int (nI (fsum μ (zn μ 843)))), (0, .ref N)] → cells ≤ 25 + j → slots ≤ 6 * (25 + j) → W p l e (zrx 10 60 360) s m args below meth c H locs cells slots Q (F0 m 36 ls []) := by
  obtain ⟨hx, hb, -, -⟩ := id X
  have hA0 : ∀ q : Nat, (fun _ => False) q → zLA N q := fun q h => h.elim
  have hnf := nf_12 hP
  intro k
  induction k with
  | zero =>
    intro j hj H locs cells slots ls hG hS hl hcl hsl
    have hj : j = 8 := hj
    subst hj
    refine lv_iload_n hx hb dL_areFindings_36 rfl (lv_at hl 0 rfl) ?_
    refine lv_bipush (v := 8) hx hb dL_areFindings_37 (by decide) ?_
    refine lv_icmp_ge (tgt := 56) hx hb dL_areFindings_39 (by decide) (fun b1 => ?_) (fun h => absurd (Int32.le_refl _) h)
    exact kk H locs _ _ ls hG hS (lv_sub hl [1, 2, 3] rfl) (by omega) (by omega)
  | succ k ih =>
    intro j hj H locs cells slots ls hG hS hl hcl hsl
    refine lv_iload_n hx hb dL_areFindings_36 rfl (lv_at hl 0 rfl) ?_
    refine lv_bipush (v := 8) hx hb dL_areFindings_37 (by decide) ?_
    refine lv_icmp_ge (tgt := 56) hx hb dL_areFindings_39 (by decide) (fun h => absurd h (fun z => absurd ((nI_leI (a := 8) (b := j) (by decide) (by omega)).mp z) (by omega))) (fun b1 => ?_)
    refine lv_iload_n hx hb dL_areFindings_42 rfl (lv_at hl 1 rfl) ?_
    refine lv_aload_n hx hb dL_areFindings_43 rfl (lv_at hl 3 rfl) ?_
    refine lv_iload_n hx hb dL_areFindings_44 rfl (lv_at hl 0 rfl) ?_
    refine zlW (As := [.ref N, .int (nI j)]) (rest := [.int (nI (ldn μ j))]) X hml C0 hA0 hG (ctL_isGrounded l hl0 D cy rf N (zxb N 0 0) (zxa N) σ (zxd N) δ (nI j) hP.zv) zmL_isGrounded (by decide) m_882 ⟨(Nat.le_of_ble_eq_true rfl), (Nat.le_of_ble_eq_true rfl)⟩ ⟨by show cells + 1 ≤ 60; omega, by show slots + 6 ≤ 360; omega⟩ rfl hl.1 rfl (Nat.le_of_ble_eq_true rfl) dL_areFindings_45 hS (fun q h => h.elim) (fun H locs hG hsz hfr hS => ?_)
    rw [ra_gr hP (show j < 8 by omega)]
    refine lv_iadd hx hb dL_areFindings_48 ?_
    rw [show ((nI (ldn μ j)) + (bI (y_down μ j)) : Int32) = nI (ldn μ (j + 1)) from (ldn_1 j)]
    refine lv_istore_n (lv' := [(2, .int (nI (ldn μ (j + 1)))), (3, .int (nI j)), (1, .int (nI (fsum μ (zn μ 843)))), (0, .ref N)]) hx hb dL_areFindings_49 rfl hl (by decide) rfl (fun ls hl => ?_)
    refine lv_iinc (v := nI (j + 1)) (lv' := [(3, .int (nI (j + 1))), (2, .int (nI (ldn μ (j + 1)))), (1, .int (nI (fsum μ (zn μ 843)))), (0, .ref N)]) hx hb dL_areFindings_50 hl (k := 1) rfl (nI_1 j) (by decide) rfl (fun ls hl => ?_)
    refine lv_goto (tgt := 36) hx hb dL_areFindings_53 (by decide) ?_
    exact ih (j + 1) (by omega) H locs _ _ ls hG hS (lv_sub hl [0, 1, 2, 3] rfl) (by omega) (by omega)
set_option maxRecDepth 100000 in
set_option maxHeartbeats 4000000 in
theorem zfn_56 (X : zX p m c s args RL cL_areFindings) (hml : c.maxLocals = 4) (hr : meth.sig.returnType = some .boolean) (hlocks : meth.locks = false) (hl0 : l.stackTraces = false) (C0 : zCx s D cy rf N b L xs ak av) (hP : zP 4 8 3 K bb V σ δ μ τ) (hG : zSA D cy N (zxb N 0 0) (zxa N) σ (zxd N) δ H) (hS : va_S (fun _ => False) s.heap H locs) (hl : lv_has ls 4 [(2, .int (nI (ldn μ 8))), (1, .int (nI (fsum μ (zn μ 843)))), (0, .ref N)]) (hcl : cells ≤ 33) (hsl : slots ≤ 6 * 33) : W p l e (zrx 10 60 360) s m args below meth c H locs cells slots (MQ below (zqM (some (.int (bI true))) (zSA D cy N (zxb N 0 0) (zxa N) σ (zxd N) δ) (fun _ => False)) args s 60 360 (fun _ => False)) (F0 m 56 ls []) := by
  obtain ⟨hx, hb, -, -⟩ := id X
  have hA0 : ∀ q : Nat, (fun _ => False) q → zLA N q := fun q h => h.elim
  have hnf := nf_12 hP
  have hsm := fsum_le hP (zn μ 843)
  have hld : ldn μ 8 ≤ 8 := ldn_le
  obtain ⟨h1, h2⟩ := find_ok hP
  have h1 : ldn μ 8 ≤ fsum μ (zn μ 843) := h1
  have h2 : 0 < fsum μ (zn μ 843) ↔ 0 < ldn μ 8 := h2
  refine lv_iload_n hx hb dL_areFindings_56 rfl (lv_at hl 0 rfl) ?_
  refine lv_iload_n hx hb dL_areFindings_57 rfl (lv_at hl 1 rfl) ?_
  refine lv_icmp_gt (tgt := 86) hx hb dL_areFindings_58 (by decide) (fun h => absurd h (fun z => absurd ((nI_ltI (by omega) (by omega)).mp z) (by omega))) (fun b1 => ?_)
  refine lv_iload_n hx hb dL_areFindings_61 rfl (lv_at hl 1 rfl) ?_
  refine lv_if_le (tgt := 69) hx hb dL_areFindings_62 (by decide) (fun b2 => ?_) (fun b2 => ?_)
  · refine lv_iconst (v := 0) hx hb dL_areFindings_69 (by decide) ?_
    refine lv_iload_n hx hb dL_areFindings_70 rfl (lv_at hl 0 rfl) ?_
    refine lv_if_le (tgt := 78) hx hb dL_areFindings_71 (by decide) (fun b3 => ?_) (fun h => absurd ((nI_leI (a := ldn μ 8) (b := 0) (by omega) (by decide)).mpr (by have := (nI_leI (a := fsum μ (zn μ 843)) (b := 0) (by omega) (by decide)).mp b2; omega)) h)
    refine lv_iconst (v := 0) hx hb dL_areFindings_78 (by decide) ?_
    refine lv_icmp_ne (tgt := 86) hx hb dL_areFindings_79 (by decide) (fun h => absurd h (by decide)) (fun _ => ?_)
    refine lv_iconst (v := 1) hx hb dL_areFindings_82 (by decide) ?_
    refine lv_goto (tgt := 87) hx hb dL_areFindings_83 (by decide) ?_
    exact zo_z (b := true) hx hb hr hlocks rfl hG hS (by omega) (by omega) dL_areFindings_87
  · refine lv_iconst (v := 1) hx hb dL_areFindings_65 (by decide) ?_
    refine lv_goto (tgt := 70) hx hb dL_areFindings_66 (by decide) ?_
    refine lv_iload_n hx hb dL_areFindings_70 rfl (lv_at hl 0 rfl) ?_
    refine lv_if_le (tgt := 78) hx hb dL_areFindings_71 (by decide) (fun h => absurd h (fun z => absurd ((nI_leI (a := ldn μ 8) (b := 0) (by omega) (by decide)).mp z) (by have : ¬ fsum μ (zn μ 843) ≤ 0 := fun y => b2 ((nI_leI (a := fsum μ (zn μ 843)) (b := 0) (by omega) (by decide)).mpr y); omega))) (fun b5 => ?_)
    refine lv_iconst (v := 1) hx hb dL_areFindings_74 (by decide) ?_
    refine lv_goto (tgt := 79) hx hb dL_areFindings_75 (by decide) ?_
    refine lv_icmp_ne (tgt := 86) hx hb dL_areFindings_79 (by decide) (fun h => absurd h (by decide)) (fun _ => ?_)
    refine lv_iconst (v := 1) hx hb dL_areFindings_82 (by decide) ?_
    refine lv_goto (tgt := 87) hx hb dL_areFindings_83 (by decide) ?_
    exact zo_z (b := true) hx hb hr hlocks rfl hG hS (by omega) (by omega) dL_areFindings_87
theorem zfn_32 (X : zX p m c s args RL cL_areFindings) (hml : c.maxLocals = 4) (hr : meth.sig.returnType = some .boolean) (hlocks : meth.locks = false) (hl0 : l.stackTraces = false) (C0 : zCx s D cy rf N b L xs ak av) (hP : zP 4 8 3 K bb V σ δ μ τ) {Q : State → Prop} (kk : ∀ (H : Heap) (locs : List Loc) (cells slots : Nat) (ls : Array Slot), zSA D cy N (zxb N 0 0) (zxa N) σ (zxd N) δ H → va_S (fun _ => False) s.heap H locs → lv_has ls 4 [(2, .int (nI (ldn μ 8))), (1, .int (nI (fsum μ (zn μ 843)))), (0, .ref N)] → cells ≤ 33 → slots ≤ 6 * 33 → W p l e (zrx 10 60 360) s m args below meth c H locs cells slots Q (F0 m 56 ls [])) (hG : zSA D cy N (zxb N 0 0) (zxa N) σ (zxd N) δ H) (hS : va_S (fun _ => False) s.heap H locs) (hl : lv_has ls 4 [(1, .int (nI (fsum μ (zn μ 843)))), (0, .ref N)]) (hcl : cells ≤ 25) (hsl : slots ≤ 6 * 25) : W p l e (zrx 10 60 360) s m args below meth c H locs cells slots Q (F0 m 32 ls []) := by
  obtain ⟨hx, hb, -, -⟩ := id X
  have hA0 : ∀ q : Nat, (fun _ => False) q → zLA N q := fun q h => h.elim
  have hnf := nf_12 hP
  refine lv_iconst (v := 0) hx hb dL_areFindings_32 (by decide) ?_
  refine lv_istore_n (lv' := [(2, .int 0), (1, .int (nI (fsum μ (zn μ 843)))), (0, .ref N)]) hx hb dL_areFindings_33 rfl hl (by decide) rfl (fun ls hl => ?_)
  refine lv_iconst (v := 0) hx hb dL_areFindings_34 (by decide) ?_
  refine lv_istore_n (lv' := [(3, .int 0), (2, .int 0), (1, .int (nI (fsum μ (zn μ 843)))), (0, .ref N)]) hx hb dL_areFindings_35 rfl hl (by decide) rfl (fun ls hl => ?_)
  exact zfn_dn X hml hr hlocks hl0 C0 hP kk 8 0 rfl H locs _ _ ls hG hS (show lv_has ls 4 [(3, .int (nI 0)), (2, .int (nI (ldn μ 0))), (1, .int (nI (fsum μ (zn μ 843)))), (0, .ref N)] from by rw [show ldn μ 0 = 0 from rfl]; exact lv_sub hl [0, 1, 2, 3] rfl) (by omega) (by omega)
theorem zmL_areFindings : zmS yL_areFindings RL cL_areFindings 4 (some .boolean) 1 := ⟨m_1212, m_0, m_1213, rfl, by decide, by decide, by decide +kernel⟩
set_option maxRecDepth 100000 in
set_option maxHeartbeats 4000000 in
theorem ctL_areFindings (l : Launch) (hl0 : l.stackTraces = false) (D : va_G) (cy : Nat → ClassId) (rf : Nat → Nat) (N b L : Nat) (xs : Nat → Int32) (ak av : Nat → Nat) {K bb : Nat} {V : Nat → Int64} {σ δ μ τ : zS} (hP : zP 4 8 3 K bb V σ δ μ τ) : Met l yL_areFindings (zw yL_areFindings cL_areFindings 4 (some .boolean)) (zrx 10 60 360) (va_Pc [.ref N] (zBL D cy rf N b L xs ak av (fun H => zSA D cy N (zxb N 0 0) (zxa N) σ (zxd N) δ H))) (zqM (some (.int (bI true))) (zSA D cy N (zxb N 0 0) (zxa N) σ (zxd N) δ) (fun _ => False)) 60 360 (fun _ => False) := by
  refine zmetM (by decide) rfl (Nat.le_of_ble_eq_true rfl) rfl (fun p e s m below meth c ls X hml hr hlocks hv hl => ?_)
  obtain ⟨C0, hG⟩ := zBL.cx hv
  obtain ⟨hx, hb, -, -⟩ := id X
  have hl : lv_has ls 4 [(0, .ref N)] := hl
  have hS : va_S (fun _ : Nat => False) s.heap s.heap [] := va_S.rf
  refine lv_iconst (v := 0) hx hb dL_areFindings_0 (by decide) ?_
  refine lv_istore_n (lv' := [(1, .int 0), (0, .ref N)]) hx hb dL_areFindings_1 rfl hl (by decide) rfl (fun ls hl => ?_)
  refine lv_iconst (v := 0) hx hb dL_areFindings_2 (by decide) ?_
  refine lv_istore_n (lv' := [(2, .int 0), (1, .int 0), (0, .ref N)]) hx hb dL_areFindings_3 rfl hl (by decide) rfl (fun ls hl => ?_)
  exact zfn_in X hml hr hlocks hl0 C0 hP (fun H locs cells slots ls hG hS hl hcl hsl => zfn_32 X hml hr hlocks hl0 C0 hP (fun H locs cells slots ls hG hS hl hcl hsl => zfn_56 X hml hr hlocks hl0 C0 hP hG hS hl hcl hsl) hG hS hl hcl hsl) (zn μ 843) 0 (Nat.zero_add _) s.heap [] 0 0 ls hG hS (show lv_has ls 4 [(2, .int (nI 0)), (1, .int (nI (fsum μ 0))), (0, .ref N)] from by rw [show fsum μ 0 = 0 from rfl]; exact lv_sub hl [0, 1, 2] rfl) (Nat.le_refl _) (Nat.le_refl _)
end ZFN
section ZTH
variable {p : Program} {l : Launch} {e : Env} {s : State} {m : MethodId} {args : Array Value} {below : List Frame} {meth : Method} {c : Code} {H : Heap} {locs : List Loc} {cells slots : Nat} {ls : Array Slot} {D : va_G} {cy : Nat → ClassId} {rf : Nat → Nat} {N b L dp pq : Nat} {xs : Nat → Int32} {ak av : Nat → Nat} {σ δ μ τ μ0 : zS} {K bb c1 : Nat} {V : Nat → Int64}
/-! ISTHROWN -/
theorem hs_no {f n : Nat} (e : zI σ f 0 = nI n) (hn : n < 1000) {k : Nat} (hk : n ≤ k) (hk2 : k < 1000) : k_has σ f (nI k) = false := by
  unfold k_has
  rw [e, decide_eq_true ((nI_leI (by omega) (by omega)).mpr hk)]
  simp
theorem th_0 : k_ref σ (nI 0) (-1) 0 0 0 = 2 := by
  show k_ref σ 0 (-1) 0 0 0 = 2
  rw [k_ref_0]
  unfold r_X8_refusalOf_0 r_X8_ofAddRigger
  rw [if_neg (by decide)]
theorem th_2 : k_ref σ (nI 2) 113 0 0 1 = 2 := by
  show k_ref σ 2 113 0 0 1 = 2
  rw [k_ref_2]
  unfold r_X8_refusalOf_2 r_X8_ofAddCanopy
  rw [if_neg (by decide), if_neg (by decide)]
theorem th_5 (hP : zP 4 8 3 K bb V σ δ μ τ) : k_ref σ (nI 5) 8 0 0 0 = 1 := by
  show k_ref σ 5 8 0 0 0 = 1
  rw [k_ref_5]
  unfold r_X8_refusalOf_5 r_X8_ofHang
  rw [show k_has σ 506 8 = false from has_c_no hP (c := 8) (by omega) (by omega), if_neg (by decide)]
theorem th_6 (hP : zP 4 8 3 K bb V σ δ μ τ) : k_ref σ (nI 6) 0 4 0 0 = 1 := by
  obtain ⟨q1, q2, q3, q4, q5, q6⟩ := hP.nb
  show k_ref σ 6 0 4 0 0 = 1
  rw [k_ref_6]
  unfold r_X8_refusalOf_6 r_X8_ofStep
  rw [show k_has σ 506 0 = true from has_c hP (c := 0) (by omega), if_neg (by decide), show k_has σ 505 4 = false from hs_no (hP.1.1.1.trans q4) (by omega) (k := 4) (by omega) (by omega), if_neg (by decide)]
theorem th_9 (hP : zP 4 8 3 K bb V σ δ μ τ) : k_ref σ (nI 9) 0 1 0 0 = 2 := by
  obtain ⟨q1, q2, q3, q4, q5, q6⟩ := hP.nb
  obtain ⟨c1, -⟩ := cl_c hP (c := 1) (by omega)
  have e : zI σ 100 1 = 114 := (hP.1.2.2.1 1 c1).1.trans (hP.2.2.2.2.2.1 1 c1)
  show k_ref σ 9 0 1 0 0 = 2
  rw [k_ref_9]
  unfold r_X8_refusalOf_9 r_X8_ofBoard
  rw [show k_has σ 507 0 = true from zhas_nI (i := 0) hP.zv.2.2.1 (by decide) (by show 0 < (zI σ 507 0).toNatClampNeg; rw [hP.1.1.2.2.2.1, q6]; decide), if_neg (by decide), show k_has σ 506 1 = true from has_c hP (c := 1) (by omega), if_neg (by decide), show k_has σ 506 0 = true from has_c hP (c := 0) (by omega), if_pos rfl, if_pos (show ¬ zI σ 100 (1 : Int32).toNatClampNeg = 109 from fun z => absurd (e.symm.trans z) (by decide))]
theorem th_11 (hP : zP 4 8 3 K bb V σ δ μ τ) : k_ref σ (nI 11) 3 0 0 0 = 1 := by
  obtain ⟨q1, q2, q3, q4, q5, q6⟩ := hP.nb
  have e : r_X8_ofLeave σ 3 = 1 := by
    unfold r_X8_ofLeave
    rw [show k_has σ 507 3 = false from hs_no (hP.1.1.2.2.2.1.trans q6) (by omega) (k := 3) (by omega) (by omega), if_neg (by decide)]
  show k_ref σ 11 3 0 0 0 = 1
  rw [k_ref_11]
  unfold r_X8_refusalOf_11 r_X8_ofJump
  rw [e, if_neg (by decide)]
theorem th_12 : k_ref σ (nI 12) (-1) 0 0 0 = 1 := by
  show k_ref σ 12 (-1) 0 0 0 = 1
  rw [k_ref_12]
  unfold r_X8_refusalOf_12 r_X8_ofFind
  rw [show k_has σ 506 (-1) = false from by unfold k_has; rw [show decide ((-1 : Int32) < 0) = true from by decide]; rfl, if_neg (by decide)]
theorem th_13 (hP : zP 4 8 3 K bb V σ δ μ τ) : k_ref σ (nI 13) 12 0 0 0 = 1 := by
  have b5 := hP.2.1.1.2.2.2.2
  show k_ref σ 13 12 0 0 0 = 1
  rw [k_ref_13]
  unfold r_X8_refusalOf_13 r_X8_ofWiden
  rw [show k_has σ 508 12 = false from hs_no (hP.1.1.2.2.2.2.1.trans b5.1) (by have := b5.2; omega) (k := 12) b5.2 (by omega), if_neg (by decide)]
theorem th_18 (hP : zP 4 8 3 K bb V σ δ μ τ) : k_ref σ (nI 18) 0 0 0 0 = 2 := by
  show k_ref σ 18 0 0 0 0 = 2
  rw [k_ref_18]
  unfold r_X8_refusalOf_18 r_X8_ofHire
  rw [show k_has σ 506 0 = true from has_c hP (c := 0) (by omega), if_pos rfl, if_pos (by decide)]
theorem th_19 (hP : zP 4 8 3 K bb V σ δ μ τ) {w2 w3 : Int32} : k_ref σ (nI 19) 8 w2 w3 0 = 1 := by
  show k_ref σ 19 8 w2 w3 0 = 1
  rw [k_ref_19]
  unfold r_X8_refusalOf_19 r_X8_ofCanopyIn
  rw [show k_has σ 506 8 = false from has_c_no hP (c := 8) (by omega) (by omega), if_neg (by decide)]
theorem th_4 : k_ref σ (nI 4) 0 0 0 0 = 2 := by
  show k_ref σ 4 0 0 0 0 = 2
  rw [k_ref_4]
  unfold r_X8_refusalOf_4 r_X8_ofGoOn
  rw [if_neg (by decide)]
theorem th_3 : k_ref σ (nI 3) 1000 0 0 0 = 2 := by
  show k_ref σ 3 1000 0 0 0 = 2
  rw [k_ref_3]
  unfold r_X8_refusalOf_3
  rw [if_pos (by decide)]
theorem k_ne {r n : Nat} (h : r = n) (hn : n ≠ 0) : r ≠ 0 := by rw [h]; exact hn
theorem zmL_isThrown : zmS yL_isThrown RL cL_isThrown 8 (some .boolean) 1 := ⟨m_1215, m_0, m_1216, rfl, by decide, by decide, by decide +kernel⟩
set_option maxRecDepth 100000 in
set_option maxHeartbeats 4000000 in
theorem ctL_isThrown (l : Launch) (hl0 : l.stackTraces = false) (D : va_G) (cy : Nat → ClassId) (rf : Nat → Nat) (N b L : Nat) (xs : Nat → Int32) (ak av : Nat → Nat) {K bb : Nat} {V : Nat → Int64} {σ δ μ τ : zS} (hP : zP 4 8 3 K bb V σ δ μ τ) (hK : K < 512) : Met l yL_isThrown (zw yL_isThrown cL_isThrown 8 (some .boolean)) (zrx 10 30 180) (va_Pc [.ref N] (zBL D cy rf N b L xs ak av (fun H => zSA D cy N (zxb N 0 0) (zxa N) σ (zxd N) δ H))) (zqM (some (.int (bI true))) (fun _ => True) (zRA (zxa N) (zxd N))) 30 180 (zRA (zxa N) (zxd N)) := by
  refine zmetM (by decide) rfl (Nat.le_of_ble_eq_true rfl) rfl (fun p e s m below meth c ls X hml hr hlocks hv hl => ?_)
  obtain ⟨C0, hG⟩ := zBL.cx hv
  obtain ⟨hx, hb, -, -⟩ := id X
  have hl : lv_has ls 8 [(0, .ref N)] := hl
  have hA0 : ∀ q, (zRA (zxa N) (zxd N)) q → zLA N q := fun q h => by have := zu_ra h; show N ≤ q; omega
  have hS : va_S (zRA (zxa N) (zxd N)) s.heap s.heap [] := va_S.rf
  refine lv_aload_n hx hb dL_isThrown_0 rfl (lv_at hl 0 rfl) ?_
  refine zlV (rest := []) X hml C0 hA0 hG (ctX9_held l hl0 D cy rf N (zxb N 0 0) (zxa N) σ (zxd N) δ hP.zv) zmX9_held (by decide) m_1191 ⟨(Nat.le_of_ble_eq_true rfl), (Nat.le_of_ble_eq_true rfl)⟩ ⟨by show 0 + 1 ≤ 30; omega, by show 0 + 6 ≤ 180; omega⟩ hl.1 (Nat.le_of_ble_eq_true rfl) dL_isThrown_1 hS (fun H locs hG hsz hfr hS => ?_)
  refine lv_lstore_n (lv' := [(1, .long (k_held σ)), (0, .ref N)]) hx hb dL_isThrown_4 rfl hl (by decide) rfl (fun ls hl => ?_)
  refine lv_aload_n hx hb dL_isThrown_5 rfl (lv_at hl 1 rfl) ?_
  refine zlV (rest := []) X hml C0 hA0 hG (ctX9_kept l hl0 D cy rf N (zxb N 0 0) (zxa N) σ (zxd N) δ) zmX9_kept (by decide) m_321 ⟨(Nat.le_of_ble_eq_true rfl), (Nat.le_of_ble_eq_true rfl)⟩ ⟨by show 0 + 1 + 1 ≤ 30; omega, by show 0 + 6 + 6 ≤ 180; omega⟩ hl.1 (Nat.le_of_ble_eq_true rfl) dL_isThrown_6 hS (fun H locs hG hsz hfr hS => ?_)
  refine lv_lstore_n (lv' := [(3, .long (zL σ 511 0)), (1, .long (k_held σ)), (0, .ref N)]) hx hb dL_isThrown_9 rfl hl (by decide) rfl (fun ls hl => ?_)
  refine lv_aload_n hx hb dL_isThrown_10 rfl (lv_at hl 2 rfl) ?_
  refine lv_iconst (v := 1) hx hb dL_isThrown_11 (by decide) ?_
  refine zlW (As := [.ref N, .int 1]) (rest := []) X hml C0 hA0 hG (ctL_packings l hl0 D cy rf N (zxb N 0 0) (zxa N) σ (zxd N) δ 1 hP.zv) zmL_packings (by decide) m_809 ⟨(Nat.le_of_ble_eq_true rfl), (Nat.le_of_ble_eq_true rfl)⟩ ⟨by show 0 + 1 + 1 + 1 ≤ 30; omega, by show 0 + 6 + 6 + 6 ≤ 180; omega⟩ rfl hl.1 rfl (Nat.le_of_ble_eq_true rfl) dL_isThrown_12 hS (fun q h => h.elim) (fun H locs hG hsz hfr hS => ?_)
  refine lv_istore (lv' := [(5, .int (zans (k_at σ 1) (zI σ 109 (1 : Int32).toNatClampNeg))), (3, .long (zL σ 511 0)), (1, .long (k_held σ)), (0, .ref N)]) hx hb dL_isThrown_15 hl (by decide) rfl (fun ls hl => ?_)
  refine lv_aload_n hx hb dL_isThrown_17 rfl (lv_at hl 3 rfl) ?_
  refine lv_iconst (v := 0) hx hb dL_isThrown_18 (by decide) ?_
  refine zlW (As := [.ref N, .int 0]) (rest := []) X hml C0 hA0 hG (ctL_stateOf l hl0 D cy rf N (zxb N 0 0) (zxa N) σ (zxd N) δ 0 hP.zv (ra_ch hP _)) zmL_stateOf (by decide) m_846 ⟨(Nat.le_of_ble_eq_true rfl), (Nat.le_of_ble_eq_true rfl)⟩ ⟨by show 0 + 1 + 1 + 1 + 1 ≤ 30; omega, by show 0 + 6 + 6 + 6 + 6 ≤ 180; omega⟩ rfl hl.1 rfl (Nat.le_of_ble_eq_true rfl) dL_isThrown_19 hS (fun q h => h.elim) (fun H locs hG hsz hfr hS => ?_)
  refine lv_istore (lv' := [(6, .int (zans (k_at σ 0) (zI σ 105 (0 : Int32).toNatClampNeg))), (5, .int (zans (k_at σ 1) (zI σ 109 (1 : Int32).toNatClampNeg))), (3, .long (zL σ 511 0)), (1, .long (k_held σ)), (0, .ref N)]) hx hb dL_isThrown_22 hl (by decide) rfl (fun ls hl => ?_)
  refine lv_aload_n hx hb dL_isThrown_24 rfl (lv_at hl 4 rfl) ?_
  refine lv_iconst (v := (-1)) hx hb dL_isThrown_25 (by decide) ?_
  refine lv_iconst (v := 0) hx hb dL_isThrown_26 (by decide) ?_
  refine zlW (As := [.ref N, .int (-1), .int 0]) (rest := []) X hml C0 hA0 hG (ctL_addRigger l hl0 D cy rf N (zxb N 0 0) (zxa N) σ (zxd N) δ zu_J (-1) 0 hP.zv hP.dc (hP.df (by omega))) zmL_addRigger (by decide) m_644 ⟨(Nat.le_of_ble_eq_true rfl), (Nat.le_of_ble_eq_true rfl)⟩ ⟨by show 0 + 1 + 1 + 1 + 1 + 1 ≤ 30; omega, by show 0 + 6 + 6 + 6 + 6 + 6 ≤ 180; omega⟩ rfl hl.1 rfl (Nat.le_of_ble_eq_true rfl) dL_isThrown_27 hS (fun q h => h) (fun H locs hG hsz hfr hS => ?_)
  rw [k_nS_1 (k_ne th_0 (by decide)), k_nD_1 (k_ne th_0 (by decide))] at hG
  rw [zans_2 th_0]
  refine lv_bipush (v := (-78)) hx hb dL_isThrown_30 (by decide) ?_
  refine lv_icmp_ne (tgt := 167) hx hb dL_isThrown_32 (by decide) (fun h => absurd h (by decide)) (fun _ => ?_)
  refine lv_aload_n hx hb dL_isThrown_35 rfl (lv_at hl 4 rfl) ?_
  refine lv_bipush (v := 113) hx hb dL_isThrown_36 (by decide) ?_
  refine lv_iconst (v := 0) hx hb dL_isThrown_38 (by decide) ?_
  refine lv_iconst (v := 0) hx hb dL_isThrown_39 (by decide) ?_
  refine lv_iconst (v := 1) hx hb dL_isThrown_40 (by decide) ?_
  refine zlW (As := [.ref N, .int 113, .int 0, .int 0, .int 1]) (rest := []) X hml C0 hA0 hG (ctL_addCanopy l hl0 D cy rf N (zxb N 0 0) (zxa N) σ (zxd N) δ zu_J 113 0 0 1 hP.zv hP.dc (hP.df (by omega))) zmL_addCanopy (by decide) m_795 ⟨(Nat.le_of_ble_eq_true rfl), (Nat.le_of_ble_eq_true rfl)⟩ ⟨by show 0 + 1 + 1 + 1 + 1 + 1 + 1 ≤ 30; omega, by show 0 + 6 + 6 + 6 + 6 + 6 + 6 ≤ 180; omega⟩ rfl hl.1 rfl (Nat.le_of_ble_eq_true rfl) dL_isThrown_41 hS (fun q h => h) (fun H locs hG hsz hfr hS => ?_)
  rw [k_nS_1 (k_ne th_2 (by decide)), k_nD_1 (k_ne th_2 (by decide))] at hG
  rw [zans_2 th_2]
  refine lv_bipush (v := (-78)) hx hb dL_isThrown_44 (by decide) ?_
  refine lv_icmp_ne (tgt := 167) hx hb dL_isThrown_46 (by decide) (fun h => absurd h (by decide)) (fun _ => ?_)
  refine lv_aload_n hx hb dL_isThrown_49 rfl (lv_at hl 4 rfl) ?_
  refine lv_bipush (v := 8) hx hb dL_isThrown_50 (by decide) ?_
  refine lv_iconst (v := 0) hx hb dL_isThrown_52 (by decide) ?_
  refine zlW (As := [.ref N, .int 8, .int 0]) (rest := []) X hml C0 hA0 hG (ctL_hang l hl0 D cy rf N (zxb N 0 0) (zxa N) σ (zxd N) δ zu_J 8 0 hP.zv hP.dc (hP.df (by omega))) zmL_hang (by decide) m_853 ⟨(Nat.le_of_ble_eq_true rfl), (Nat.le_of_ble_eq_true rfl)⟩ ⟨by show 0 + 1 + 1 + 1 + 1 + 1 + 1 + 1 ≤ 30; omega, by show 0 + 6 + 6 + 6 + 6 + 6 + 6 + 6 ≤ 180; omega⟩ rfl hl.1 rfl (Nat.le_of_ble_eq_true rfl) dL_isThrown_53 hS (fun q h => h) (fun H locs hG hsz hfr hS => ?_)
  rw [k_nS_1 (k_ne (th_5 hP) (by decide)), k_nD_1 (k_ne (th_5 hP) (by decide))] at hG
  rw [zans_1 (th_5 hP)]
  refine lv_bipush (v := (-77)) hx hb dL_isThrown_56 (by decide) ?_
  refine lv_icmp_ne (tgt := 167) hx hb dL_isThrown_58 (by decide) (fun h => absurd h (by decide)) (fun _ => ?_)
  refine lv_aload_n hx hb dL_isThrown_61 rfl (lv_at hl 4 rfl) ?_
  refine lv_iconst (v := 0) hx hb dL_isThrown_62 (by decide) ?_
  refine lv_iconst (v := 4) hx hb dL_isThrown_63 (by decide) ?_
  refine zlW (As := [.ref N, .int 0, .int 4]) (rest := []) X hml C0 hA0 hG (ctL_step l hl0 D cy rf N (zxb N 0 0) (zxa N) σ (zxd N) δ zu_J 0 4 hP.zv hP.dc (hP.df (by omega))) zmL_step (by decide) m_861 ⟨(Nat.le_of_ble_eq_true rfl), (Nat.le_of_ble_eq_true rfl)⟩ ⟨by show 0 + 1 + 1 + 1 + 1 + 1 + 1 + 1 + 1 ≤ 30; omega, by show 0 + 6 + 6 + 6 + 6 + 6 + 6 + 6 + 6 ≤ 180; omega⟩ rfl hl.1 rfl (Nat.le_of_ble_eq_true rfl) dL_isThrown_64 hS (fun q h => h) (fun H locs hG hsz hfr hS => ?_)
  rw [k_nS_1 (k_ne (th_6 hP) (by decide)), k_nD_1 (k_ne (th_6 hP) (by decide))] at hG
  rw [zans_1 (th_6 hP)]
  refine lv_bipush (v := (-77)) hx hb dL_isThrown_67 (by decide) ?_
  refine lv_icmp_ne (tgt := 167) hx hb dL_isThrown_69 (by decide) (fun h => absurd h (by decide)) (fun _ => ?_)
  refine lv_aload_n hx hb dL_isThrown_72 rfl (lv_at hl 4 rfl) ?_
  refine lv_iconst (v := 0) hx hb dL_isThrown_73 (by decide) ?_
  refine lv_iconst (v := 1) hx hb dL_isThrown_74 (by decide) ?_
  refine lv_iconst (v := 0) hx hb dL_isThrown_75 (by decide) ?_
  refine zlW (As := [.ref N, .int 0, .int 1, .int 0]) (rest := []) X hml C0 hA0 hG (ctL_board l hl0 D cy rf N (zxb N 0 0) (zxa N) σ (zxd N) δ zu_J 0 1 0 hP.zv hP.dc (hP.df (by omega))) zmL_board (by decide) m_875 ⟨(Nat.le_of_ble_eq_true rfl), (Nat.le_of_ble_eq_true rfl)⟩ ⟨by show 0 + 1 + 1 + 1 + 1 + 1 + 1 + 1 + 1 + 1 ≤ 30; omega, by show 0 + 6 + 6 + 6 + 6 + 6 + 6 + 6 + 6 + 6 ≤ 180; omega⟩ rfl hl.1 rfl (Nat.le_of_ble_eq_true rfl) dL_isThrown_76 hS (fun q h => h) (fun H locs hG hsz hfr hS => ?_)
  rw [k_nS_1 (k_ne (th_9 hP) (by decide)), k_nD_1 (k_ne (th_9 hP) (by decide))] at hG
  rw [zans_2 (th_9 hP)]
  refine lv_bipush (v := (-78)) hx hb dL_isThrown_79 (by decide) ?_
  refine lv_icmp_ne (tgt := 167) hx hb dL_isThrown_81 (by decide) (fun h => absurd h (by decide)) (fun _ => ?_)
  refine lv_aload_n hx hb dL_isThrown_84 rfl (lv_at hl 4 rfl) ?_
  refine lv_iconst (v := 3) hx hb dL_isThrown_85 (by decide) ?_
  refine lv_iconst (v := 0) hx hb dL_isThrown_86 (by decide) ?_
  refine zlW (As := [.ref N, .int 3, .int 0]) (rest := []) X hml C0 hA0 hG (ctL_jump l hl0 D cy rf N (zxb N 0 0) (zxa N) σ (zxd N) δ zu_J 3 0 hP.zv hP.dc (hP.df (by omega))) zmL_jump (by decide) m_898 ⟨(Nat.le_of_ble_eq_true rfl), (Nat.le_of_ble_eq_true rfl)⟩ ⟨by show 0 + 1 + 1 + 1 + 1 + 1 + 1 + 1 + 1 + 1 + 1 ≤ 30; omega, by show 0 + 6 + 6 + 6 + 6 + 6 + 6 + 6 + 6 + 6 + 6 ≤ 180; omega⟩ rfl hl.1 rfl (Nat.le_of_ble_eq_true rfl) dL_isThrown_87 hS (fun q h => h) (fun H locs hG hsz hfr hS => ?_)
  rw [k_nS_1 (k_ne (th_11 hP) (by decide)), k_nD_1 (k_ne (th_11 hP) (by decide))] at hG
  rw [zans_1 (th_11 hP)]
  refine lv_bipush (v := (-77)) hx hb dL_isThrown_90 (by decide) ?_
  refine lv_icmp_ne (tgt := 167) hx hb dL_isThrown_92 (by decide) (fun h => absurd h (by decide)) (fun _ => ?_)
  refine lv_aload_n hx hb dL_isThrown_95 rfl (lv_at hl 4 rfl) ?_
  refine lv_iconst (v := (-1)) hx hb dL_isThrown_96 (by decide) ?_
  refine zlW (As := [.ref N, .int (-1)]) (rest := []) X hml C0 hA0 hG (ctL_find l hl0 D cy rf N (zxb N 0 0) (zxa N) σ (zxd N) δ zu_J (-1) hP.zv hP.dc (hP.df (by omega))) zmL_find (by decide) m_926 ⟨(Nat.le_of_ble_eq_true rfl), (Nat.le_of_ble_eq_true rfl)⟩ ⟨by show 0 + 1 + 1 + 1 + 1 + 1 + 1 + 1 + 1 + 1 + 1 + 1 ≤ 30; omega, by show 0 + 6 + 6 + 6 + 6 + 6 + 6 + 6 + 6 + 6 + 6 + 6 ≤ 180; omega⟩ rfl hl.1 rfl (Nat.le_of_ble_eq_true rfl) dL_isThrown_97 hS (fun q h => h) (fun H locs hG hsz hfr hS => ?_)
  rw [k_nS_1 (k_ne th_12 (by decide)), k_nD_1 (k_ne th_12 (by decide))] at hG
  rw [zans_1 th_12]
  refine lv_bipush (v := (-77)) hx hb dL_isThrown_100 (by decide) ?_
  refine lv_icmp_ne (tgt := 167) hx hb dL_isThrown_102 (by decide) (fun h => absurd h (by decide)) (fun _ => ?_)
  refine lv_aload_n hx hb dL_isThrown_105 rfl (lv_at hl 4 rfl) ?_
  refine lv_bipush (v := 12) hx hb dL_isThrown_106 (by decide) ?_
  refine zlW (As := [.ref N, .int 12]) (rest := []) X hml C0 hA0 hG (ctL_widen l hl0 D cy rf N (zxb N 0 0) (zxa N) σ (zxd N) δ zu_J 12 hP.zv hP.dc (hP.df (by omega))) zmL_widen (by decide) m_946 ⟨(Nat.le_of_ble_eq_true rfl), (Nat.le_of_ble_eq_true rfl)⟩ ⟨by show 0 + 1 + 1 + 1 + 1 + 1 + 1 + 1 + 1 + 1 + 1 + 1 + 1 ≤ 30; omega, by show 0 + 6 + 6 + 6 + 6 + 6 + 6 + 6 + 6 + 6 + 6 + 6 + 6 ≤ 180; omega⟩ rfl hl.1 rfl (Nat.le_of_ble_eq_true rfl) dL_isThrown_108 hS (fun q h => h) (fun H locs hG hsz hfr hS => ?_)
  rw [k_nS_1 (k_ne (th_13 hP) (by decide)), k_nD_1 (k_ne (th_13 hP) (by decide))] at hG
  rw [zans_1 (th_13 hP)]
  refine lv_bipush (v := (-77)) hx hb dL_isThrown_111 (by decide) ?_
  refine lv_icmp_ne (tgt := 167) hx hb dL_isThrown_113 (by decide) (fun h => absurd h (by decide)) (fun _ => ?_)
  refine lv_aload_n hx hb dL_isThrown_116 rfl (lv_at hl 4 rfl) ?_
  refine lv_iconst (v := 0) hx hb dL_isThrown_117 (by decide) ?_
  refine lv_iconst (v := 0) hx hb dL_isThrown_118 (by decide) ?_
  refine lv_iconst (v := 0) hx hb dL_isThrown_119 (by decide) ?_
  refine zlW (As := [.ref N, .int 0, .int 0, .int 0]) (rest := []) X hml C0 hA0 hG (ctL_hire l hl0 D cy rf N (zxb N 0 0) (zxa N) σ (zxd N) δ zu_J 0 0 0 hP.zv hP.dc (hP.df (by omega))) zmL_hire (by decide) m_1015 ⟨(Nat.le_of_ble_eq_true rfl), (Nat.le_of_ble_eq_true rfl)⟩ ⟨by show 0 + 1 + 1 + 1 + 1 + 1 + 1 + 1 + 1 + 1 + 1 + 1 + 1 + 1 ≤ 30; omega, by show 0 + 6 + 6 + 6 + 6 + 6 + 6 + 6 + 6 + 6 + 6 + 6 + 6 + 6 ≤ 180; omega⟩ rfl hl.1 rfl (Nat.le_of_ble_eq_true rfl) dL_isThrown_120 hS (fun q h => h) (fun H locs hG hsz hfr hS => ?_)
  rw [k_nS_1 (k_ne (th_18 hP) (by decide)), k_nD_1 (k_ne (th_18 hP) (by decide))] at hG
  rw [zans_2 (th_18 hP)]
  refine lv_bipush (v := (-78)) hx hb dL_isThrown_123 (by decide) ?_
  refine lv_icmp_ne (tgt := 167) hx hb dL_isThrown_125 (by decide) (fun h => absurd h (by decide)) (fun _ => ?_)
  refine lv_aload_n hx hb dL_isThrown_128 rfl (lv_at hl 4 rfl) ?_
  refine lv_bipush (v := 8) hx hb dL_isThrown_129 (by decide) ?_
  refine lv_iconst (v := 1) hx hb dL_isThrown_131 (by decide) ?_
  refine lv_iconst (v := 1) hx hb dL_isThrown_132 (by decide) ?_
  refine zlW (As := [.ref N, .int 8, .int (bI true), .int (bI true)]) (rest := []) X hml C0 hA0 hG (ctL_back l hl0 D cy rf N (zxb N 0 0) (zxa N) σ (zxd N) δ zu_J 8 true true hP.zv hP.dc (hP.df (by omega))) zmL_back (by decide) m_1008 ⟨(Nat.le_of_ble_eq_true rfl), (Nat.le_of_ble_eq_true rfl)⟩ ⟨by show 0 + 1 + 1 + 1 + 1 + 1 + 1 + 1 + 1 + 1 + 1 + 1 + 1 + 1 + 1 ≤ 30; omega, by show 0 + 6 + 6 + 6 + 6 + 6 + 6 + 6 + 6 + 6 + 6 + 6 + 6 + 6 + 6 ≤ 180; omega⟩ rfl hl.1 rfl (Nat.le_of_ble_eq_true rfl) dL_isThrown_133 hS (fun q h => h) (fun H locs hG hsz hfr hS => ?_)
  rw [k_nS_1 (k_ne (th_19 hP) (by decide)), k_nD_1 (k_ne (th_19 hP) (by decide))] at hG
  rw [zans_1 (th_19 hP)]
  refine lv_bipush (v := (-77)) hx hb dL_isThrown_136 (by decide) ?_
  refine lv_icmp_ne (tgt := 167) hx hb dL_isThrown_138 (by decide) (fun h => absurd h (by decide)) (fun _ => ?_)
  refine lv_aload_n hx hb dL_isThrown_141 rfl (lv_at hl 4 rfl) ?_
  refine lv_iconst (v := 0) hx hb dL_isThrown_142 (by decide) ?_
  refine zlW (As := [.ref N, .int 0]) (rest := []) X hml C0 hA0 hG (ctL_goOn l hl0 D cy rf N (zxb N 0 0) (zxa N) σ (zxd N) δ zu_J 0 hP.zv hP.dc (hP.df (by omega))) zmL_goOn (by decide) m_1023 ⟨(Nat.le_of_ble_eq_true rfl), (Nat.le_of_ble_eq_true rfl)⟩ ⟨by show 0 + 1 + 1 + 1 + 1 + 1 + 1 + 1 + 1 + 1 + 1 + 1 + 1 + 1 + 1 + 1 ≤ 30; omega, by show 0 + 6 + 6 + 6 + 6 + 6 + 6 + 6 + 6 + 6 + 6 + 6 + 6 + 6 + 6 + 6 ≤ 180; omega⟩ rfl hl.1 rfl (Nat.le_of_ble_eq_true rfl) dL_isThrown_143 hS (fun q h => h) (fun H locs hG hsz hfr hS => ?_)
  rw [k_nS_1 (k_ne th_4 (by decide)), k_nD_1 (k_ne th_4 (by decide))] at hG
  rw [zans_2 th_4]
  refine lv_bipush (v := (-78)) hx hb dL_isThrown_146 (by decide) ?_
  refine lv_icmp_ne (tgt := 167) hx hb dL_isThrown_148 (by decide) (fun h => absurd h (by decide)) (fun _ => ?_)
  refine lv_aload_n hx hb dL_isThrown_151 rfl (lv_at hl 4 rfl) ?_
  refine lv_sipush (v := 1000) hx hb dL_isThrown_152 (by decide) ?_
  refine zlW (As := [.ref N, .int 1000]) (rest := []) X hml C0 hA0 hG (ctL_setPeriod l hl0 D cy rf N (zxb N 0 0) (zxa N) σ (zxd N) δ zu_J 1000 hP.zv hP.dc (hP.df (by omega))) zmL_setPeriod (by decide) m_1217 ⟨(Nat.le_of_ble_eq_true rfl), (Nat.le_of_ble_eq_true rfl)⟩ ⟨by show 0 + 1 + 1 + 1 + 1 + 1 + 1 + 1 + 1 + 1 + 1 + 1 + 1 + 1 + 1 + 1 + 1 ≤ 30; omega, by show 0 + 6 + 6 + 6 + 6 + 6 + 6 + 6 + 6 + 6 + 6 + 6 + 6 + 6 + 6 + 6 + 6 ≤ 180; omega⟩ rfl hl.1 rfl (Nat.le_of_ble_eq_true rfl) dL_isThrown_155 hS (fun q h => h) (fun H locs hG hsz hfr hS => ?_)
  rw [k_nS_1 (k_ne th_3 (by decide)), k_nD_1 (k_ne th_3 (by decide))] at hG
  rw [zans_2 th_3]
  refine lv_bipush (v := (-78)) hx hb dL_isThrown_158 (by decide) ?_
  refine lv_icmp_ne (tgt := 167) hx hb dL_isThrown_160 (by decide) (fun h => absurd h (by decide)) (fun _ => ?_)
  refine lv_iconst (v := 1) hx hb dL_isThrown_163 (by decide) ?_
  refine lv_goto (tgt := 168) hx hb dL_isThrown_164 (by decide) ?_
  refine lv_istore (lv' := [(7, .int 1), (6, .int (zans (k_at σ 0) (zI σ 105 (0 : Int32).toNatClampNeg))), (5, .int (zans (k_at σ 1) (zI σ 109 (1 : Int32).toNatClampNeg))), (3, .long (zL σ 511 0)), (1, .long (k_held σ)), (0, .ref N)]) hx hb dL_isThrown_168 hl (by decide) rfl (fun ls hl => ?_)
  refine lv_iload hx hb dL_isThrown_170 (lv_at hl 0 rfl) ?_
  refine lv_if_eq (tgt := 217) hx hb dL_isThrown_172 (by decide) (fun h => absurd h (by decide)) (fun _ => ?_)
  refine lv_aload_n hx hb dL_isThrown_175 rfl (lv_at hl 5 rfl) ?_
  refine zlV (rest := []) X hml C0 hA0 hG (ctX9_held l hl0 D cy rf N (zxb N 0 0) (zxa N) σ (zxd N) δ hP.zv) zmX9_held (by decide) m_1191 ⟨(Nat.le_of_ble_eq_true rfl), (Nat.le_of_ble_eq_true rfl)⟩ ⟨by show 0 + 1 + 1 + 1 + 1 + 1 + 1 + 1 + 1 + 1 + 1 + 1 + 1 + 1 + 1 + 1 + 1 + 1 ≤ 30; omega, by show 0 + 6 + 6 + 6 + 6 + 6 + 6 + 6 + 6 + 6 + 6 + 6 + 6 + 6 + 6 + 6 + 6 + 6 ≤ 180; omega⟩ hl.1 (Nat.le_of_ble_eq_true rfl) dL_isThrown_176 hS (fun H locs hG hsz hfr hS => ?_)
  refine lv_lload_n hx hb dL_isThrown_179 rfl (lv_at hl 4 rfl) ?_
  refine W.lcmp hx hb dL_isThrown_180 ?_
  refine lv_if_ne (tgt := 217) hx hb dL_isThrown_181 (by decide) (fun h => absurd h (not_not_intro (lg_self _))) (fun b14 => ?_)
  refine lv_aload_n hx hb dL_isThrown_184 rfl (lv_at hl 5 rfl) ?_
  refine zlV (rest := []) X hml C0 hA0 hG (ctX9_kept l hl0 D cy rf N (zxb N 0 0) (zxa N) σ (zxd N) δ) zmX9_kept (by decide) m_321 ⟨(Nat.le_of_ble_eq_true rfl), (Nat.le_of_ble_eq_true rfl)⟩ ⟨by show 0 + 1 + 1 + 1 + 1 + 1 + 1 + 1 + 1 + 1 + 1 + 1 + 1 + 1 + 1 + 1 + 1 + 1 + 1 ≤ 30; omega, by show 0 + 6 + 6 + 6 + 6 + 6 + 6 + 6 + 6 + 6 + 6 + 6 + 6 + 6 + 6 + 6 + 6 + 6 + 6 ≤ 180; omega⟩ hl.1 (Nat.le_of_ble_eq_true rfl) dL_isThrown_185 hS (fun H locs hG hsz hfr hS => ?_)
  refine lv_lload_n hx hb dL_isThrown_188 rfl (lv_at hl 3 rfl) ?_
  refine W.lcmp hx hb dL_isThrown_189 ?_
  refine lv_if_ne (tgt := 217) hx hb dL_isThrown_190 (by decide) (fun h => absurd h (not_not_intro (lg_self _))) (fun b15 => ?_)
  refine lv_aload_n hx hb dL_isThrown_193 rfl (lv_at hl 5 rfl) ?_
  refine lv_iconst (v := 1) hx hb dL_isThrown_194 (by decide) ?_
  refine zlW (As := [.ref N, .int 1]) (rest := []) X hml C0 hA0 hG (ctL_packings l hl0 D cy rf N (zxb N 0 0) (zxa N) σ (zxd N) δ 1 hP.zv) zmL_packings (by decide) m_809 ⟨(Nat.le_of_ble_eq_true rfl), (Nat.le_of_ble_eq_true rfl)⟩ ⟨by show 0 + 1 + 1 + 1 + 1 + 1 + 1 + 1 + 1 + 1 + 1 + 1 + 1 + 1 + 1 + 1 + 1 + 1 + 1 + 1 ≤ 30; omega, by show 0 + 6 + 6 + 6 + 6 + 6 + 6 + 6 + 6 + 6 + 6 + 6 + 6 + 6 + 6 + 6 + 6 + 6 + 6 + 6 ≤ 180; omega⟩ rfl hl.1 rfl (Nat.le_of_ble_eq_true rfl) dL_isThrown_195 hS (fun q h => h.elim) (fun H locs hG hsz hfr hS => ?_)
  refine lv_iload hx hb dL_isThrown_198 (lv_at hl 2 rfl) ?_
  refine lv_icmp_ne (tgt := 217) hx hb dL_isThrown_200 (by decide) (fun h => absurd h (not_not_intro rfl)) (fun b16 => ?_)
  refine lv_aload_n hx hb dL_isThrown_203 rfl (lv_at hl 5 rfl) ?_
  refine lv_iconst (v := 0) hx hb dL_isThrown_204 (by decide) ?_
  refine zlW (As := [.ref N, .int 0]) (rest := []) X hml C0 hA0 hG (ctL_stateOf l hl0 D cy rf N (zxb N 0 0) (zxa N) σ (zxd N) δ 0 hP.zv (ra_ch hP _)) zmL_stateOf (by decide) m_846 ⟨(Nat.le_of_ble_eq_true rfl), (Nat.le_of_ble_eq_true rfl)⟩ ⟨by show 0 + 1 + 1 + 1 + 1 + 1 + 1 + 1 + 1 + 1 + 1 + 1 + 1 + 1 + 1 + 1 + 1 + 1 + 1 + 1 + 1 ≤ 30; omega, by show 0 + 6 + 6 + 6 + 6 + 6 + 6 + 6 + 6 + 6 + 6 + 6 + 6 + 6 + 6 + 6 + 6 + 6 + 6 + 6 + 6 ≤ 180; omega⟩ rfl hl.1 rfl (Nat.le_of_ble_eq_true rfl) dL_isThrown_205 hS (fun q h => h.elim) (fun H locs hG hsz hfr hS => ?_)
  refine lv_iload hx hb dL_isThrown_208 (lv_at hl 1 rfl) ?_
  refine lv_icmp_ne (tgt := 217) hx hb dL_isThrown_210 (by decide) (fun h => absurd h (not_not_intro rfl)) (fun b17 => ?_)
  refine lv_iconst (v := 1) hx hb dL_isThrown_213 (by decide) ?_
  refine lv_goto (tgt := 218) hx hb dL_isThrown_214 (by decide) ?_
  exact zo_z (b := true) hx hb hr hlocks rfl trivial hS (by omega) (by omega) dL_isThrown_218
end ZTH
