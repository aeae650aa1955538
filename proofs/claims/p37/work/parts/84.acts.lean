section ZAX
variable {p : Program} {l : Launch} {e : Env} {s : State} {m : MethodId} {args : Array Value} {below : List Frame} {meth : Method} {c : Code} {H : Heap} {locs : List Loc} {cells slots : Nat} {ls : Array Slot} {D : va_G} {cy : Nat → ClassId} {rf : Nat → Nat} {N b L dp : Nat} {xs : Nat → Int32} {ak av : Nat → Nat} {σ δ μ τ σ1 δ1 μ1 τ1 : zS} {K K1 bb c1 a1 j1 k1 e1 : Nat} {V V1 : Nat → Int64} {t1 v1 : Int32}
/-! ACTS -/
def zAE (D : va_G) (cy : Nat → ClassId) (N dp K bb : Nat) (μ : zS) (H : Heap) : Prop := ∃ σ' δ' μ' τ' V', zSA D cy N (zxb N 0 0) (zxa N) σ' (zxd N) δ' H ∧ zDp D cy dp V' H ∧ zP 4 8 3 (K + 8) (bb + 1) V' σ' δ' μ' τ' ∧ RD 1 μ μ'
theorem zRD_N {q : Nat} (hdp : N + 339 ≤ dp) (h : zRD N dp q) : zLA N q := by
  rcases h with h | h
  · have := zu_ra h; show N ≤ q; omega
  · show N ≤ q; omega
theorem zo_z {R : Room} {cc : ByteArray} {pc mc ms : Nat} {A : Nat → Prop} {G' : Heap → Prop} {b : Bool} {w : Int32} (hx : p.tables.exec = Jvm.exec) (hb : c.code = cc) (hr : meth.sig.returnType = some .boolean) (hlocks : meth.locks = false) (h : w = bI b) (hG : G' H) (hS : va_S A s.heap H locs) (h1 : cells ≤ mc) (h2 : slots ≤ ms) (hd : decode cc pc = .ok (.ireturn, 1)) : W p l e R s m args below meth c H locs cells slots (MQ below (zqM (some (.int (bI b))) G' A) args s mc ms A) (F0 m pc ls [.int w]) := by
  subst h
  exact zwid h1 h2 (W.zret (cc := cc) hx hb hr (bI_n b) (fun t ht hW => ⟨rfl, by rw [ht]; exact hG, hS.F ht⟩) hS.2.2 hd hlocks)
/-- deposits[i] -/
theorem zdl {R : Room} {Q : State → Prop} {cc : ByteArray} {pc : Nat} {own : String} {i : Nat} (hi8 : i < 8) {rest : List Value} (X : zX p m c s args own cc) (hK : zK D cy s) (hD : zDp D cy dp V H) (hd : decode cc pc = .ok (.laload, 1))
    (kk : W p l e R s m args below meth c H locs cells slots Q (F0 m (pc + 1) ls (.long (V i) :: rest))) : W p l e R s m args below meth c H locs cells slots Q (F0 m pc ls (.int (nI i) :: .ref dp :: rest)) := by
  have hat : va_at D zcl (dp, .inl (cy 5, 8, .inr (.inl V))) H := hD
  have e : (nI i).toNatClampNeg = i := nI_clamp (by omega)
  refine W.lald (v := .long (V i)) X.1 X.2.1 hat ((hK.2 5 _ rfl).1 8 (fun j => .long (V j))) (fun q => by cases q) (by show ¬ (nI i < 0 ∨ (arrV _ _ _).slots.size ≤ _); rw [arrV_size]; exact vp_in_nI hi8 (show 8 < 2 ^ 31 by decide)) (by show (arrV _ _ _).slots[_]? = _; rw [e, arrV_read _ _ hi8]) rfl rfl hd kk
/-- deposits[i] = w -/
theorem zds {R : Room} {Q : State → Prop} {cc : ByteArray} {pc : Nat} {own : String} {i : Nat} (hi8 : i < 8) {rest : List Value} {w : Int64} {A : Nat → Prop} (X : zX p m c s args own cc) (hK : zK D cy s) (hD : zDp D cy dp V H) (hS : va_S A s.heap H locs) (hA : A dp) (hd : decode cc pc = .ok (.lastore, 1))
    (kk : ∀ (H1 : Heap) (locs1 : List Loc), zDp D cy dp (vup V i w) H1 → H1.size = H.size → (∀ q, q ≠ dp → H1[q]? = H[q]?) → va_S A s.heap H1 locs1 → W p l e R s m args below meth c H1 locs1 cells slots Q (F0 m (pc + 1) ls rest)) : W p l e R s m args below meth c H locs cells slots Q (F0 m pc ls (.long w :: .int (nI i) :: .ref dp :: rest)) := by
  have hat : va_at D zcl (dp, .inl (cy 5, 8, .inr (.inl V))) H := hD
  have e : (nI i).toNatClampNeg = i := nI_clamp (by omega)
  refine W.last X.1 X.2.1 hat ((hK.2 5 _ rfl).1 8 (fun j => .long (V j))) (fun q => by cases q) (by show ¬ (nI i < 0 ∨ (arrV _ _ _).slots.size ≤ _); rw [arrV_size]; exact vp_in_nI hi8 (show 8 < 2 ^ 31 by decide)) rfl rfl hd fun H1 e1 z oq => ?_
  refine kk H1 _ ?_ z oq (hS.put z oq hA)
  show H1[dp]? = some (vp_cell _ _)
  rw [e1]
  rw [vp_cell_l, vp_cell_l, arrV_store]
  refine congrArg (fun z => some (arrV (cy 5) 8 z)) (funext fun q => ?_)
  by_cases hq : q = i
  · simp only [updV, vup, hq, e, if_true]
  · simp only [updV, vup, if_neg hq, e]
theorem zl_20 {a : Nat} (h : a < 4) : (20 : Int64) * (nI a).toInt64 = (nI (20 * a)).toInt64 := by
  rcases (show a = 0 ∨ a = 1 ∨ a = 2 ∨ a = 3 by omega) with rfl | rfl | rfl | rfl <;> decide
theorem zSA_k {H1 : Heap} (h : zSA D cy N (zxb N 0 0) (zxa N) σ (zxd N) δ H) (hq : ∀ q, q < N + 339 → H1[q]? = H[q]?) : zSA D cy N (zxb N 0 0) (zxa N) σ (zxd N) δ H1 := ⟨zO.kept h.1 (fun _ => hq N (by omega)), h.2.1.kept (fun q z => hq q (by have := zu_a z; omega)), h.2.2.kept (fun q z => hq q (by have := zu_d z; omega))⟩
theorem zCx_st {A : Nat → Prop} (C0 : zCx s D cy rf N b L xs ak av) (hS : va_S A s.heap H locs) (hA : ∀ q, A q → zLA N q) : zSt ak av (zLA N) s H := C0.2.2.2.2.1.kept (fun a h1 h2 => hS.2.1 a h1 (fun z => h2 (hA a z)))
theorem zS_up {A : Nat → Prop} (hS : va_S A s.heap H locs) (hA : ∀ q, A q → zLA N q) : va_S (zLA N) s.heap H locs := ⟨hS.1, fun q h1 h2 => hS.2.1 q h1 (fun z => h2 (hA q z)), fun l hl => hA _ (hS.2.2 l hl)⟩
theorem gnd_le {R' C' L' : Nat} (hP : zP R' C' L' K1 bb V1 σ1 δ1 μ1 τ1) {f : Nat} (h1 : f < zn μ 843) (h2 : f < zn μ1 843) (h3 : y_cntG μ f ≤ y_cntG μ1 f) {K2 : Nat} {V2 : Nat → Int64} {σ2 δ2 τ2 : zS} (hQ : zP R' C' L' K2 bb V2 σ2 δ2 μ τ2) : ¬ gnd μ1 f < gnd μ f := by
  unfold gnd
  rw [if_pos h1, if_pos h2]
  have := cntG_le hP f
  have := cntG_le hQ f
  exact Int32.not_lt.mpr ((nI_leI (by omega) (by omega)).mpr h3)
theorem lcmp_le {q x : Nat} {v : Int64} (h : q ≤ x) (hx : x ≤ 60) (hv : v = (nI x).toInt64) : ¬ 0 < lg_cmp (nI q).toInt64 v := by
  rw [hv, zl_nI (by omega), zl_nI (by omega)]
  have a := zl_le (a := q) (c := x) (by omega) (by omega) h
  unfold lg_cmp
  rw [if_neg (Int64.not_lt.mpr a)]
  split <;> decide
set_option maxRecDepth 100000 in
set_option maxHeartbeats 4000000 in
theorem zac_203_1 (X : zX p m c s args RL cL_acts) (hml : c.maxLocals = 11) (hr : meth.sig.returnType = some .boolean) (hlocks : meth.locks = false) (hl0 : l.stackTraces = false) (hL31 : L < 2 ^ 31) (C0 : zCx s D cy rf N b L xs ak av) (hdp : N + 339 ≤ dp) (hc : c1 < 8) (ha : a1 < 4) (hj : j1 < 6) (hK : K + 8 ≤ 512) (hbb : 36 * bb + 36 ≤ 9999) (hP : zP 4 8 3 K1 bb V σ1 δ1 μ1 τ1) (hK1 : K1 ≤ K + 7) (hRD : RD 1 μ μ1) (hG : zSA D cy N (zxb N 0 0) (zxa N) σ1 (zxd N) δ1 H) (ht : 0 < t1) (hs : zA μ1 38 0 c1 = 107) (hDp : zDp D cy dp V H) (hS : va_S (zRD N dp) s.heap H locs) (hl : lv_has ls 11 [(9, .int 1), (8, .int t1), (7, .int (zA μ 38 0 c1)), (6, .int (nI j1)), (5, .int (nI a1)), (4, .int (nI c1)), (0, .ref N), (1, .ref b), (2, .int (nI k1)), (3, .ref dp)]) (hcl : cells ≤ 20) (hsl : slots ≤ 120) : W p l e (zrx 10 40 240) s m args below meth c H locs cells slots (MQ below (zqM (some (.int (bI true))) (zAE D cy N dp K bb μ) (zRD N dp)) args s 40 240 (zRD N dp)) (F0 m 203 ls []) := by
  obtain ⟨hx, hb, -, -⟩ := id X
  have hA0 : ∀ q, zRD N dp q → zLA N q := fun q h => zRD_N hdp h
  refine lv_iload hx hb dL_acts_203 (lv_at hl 1 rfl) ?_
  refine lv_if_le (tgt := 237) hx hb dL_acts_205 (by decide) (fun h => absurd h (Int32.not_le.mpr ht)) (fun b1 => ?_)
  refine lv_aload_n hx hb dL_acts_208 rfl (lv_at hl 6 rfl) ?_
  refine lv_iload hx hb dL_acts_209 (lv_at hl 5 rfl) ?_
  refine zlW (As := [.ref N, .int (nI c1)]) (rest := []) X hml C0 hA0 hG (ctL_stateOf l hl0 D cy rf N (zxb N 0 0) (zxa N) σ1 (zxd N) δ1 (nI c1) hP.zv (ra_ch hP _)) zmL_stateOf (by decide) m_846 ⟨(Nat.le_of_ble_eq_true rfl), (Nat.le_of_ble_eq_true rfl)⟩ ⟨by show cells + 1 ≤ 40; omega, by show slots + 6 ≤ 240; omega⟩ rfl hl.1 rfl (Nat.le_of_ble_eq_true rfl) dL_acts_211 hS (fun q h => h.elim) (fun H locs hG hsz hfr hS => ?_)
  replace hDp := va_at.kept hDp (hfr dp (va_at.lt hDp) (fun z => z))
  rw [ra_st hP hc]
  refine lv_iload hx hb dL_acts_214 (lv_at hl 0 rfl) ?_
  refine lv_if_eq (tgt := 224) hx hb dL_acts_216 (by decide) (fun h => absurd h (by decide)) (fun _ => ?_)
  refine lv_bipush (v := 107) hx hb dL_acts_219 (by decide) ?_
  refine lv_goto (tgt := 226) hx hb dL_acts_221 (by decide) ?_
  refine lv_icmp_ne (tgt := 233) hx hb dL_acts_226 (by decide) (fun h => absurd h (not_not_intro hs)) (fun b3 => ?_)
  refine lv_iconst (v := 1) hx hb dL_acts_229 (by decide) ?_
  refine lv_goto (tgt := 256) hx hb dL_acts_230 (by decide) ?_
  exact zo_z (b := true) hx hb hr hlocks rfl ⟨σ1, δ1, μ1, τ1, V, hG, hDp, hP.up (by omega) (by omega), hRD⟩ hS (by omega) (by omega) dL_acts_256
set_option maxRecDepth 100000 in
set_option maxHeartbeats 4000000 in
theorem zac_203_0 (X : zX p m c s args RL cL_acts) (hml : c.maxLocals = 11) (hr : meth.sig.returnType = some .boolean) (hlocks : meth.locks = false) (hl0 : l.stackTraces = false) (hL31 : L < 2 ^ 31) (C0 : zCx s D cy rf N b L xs ak av) (hdp : N + 339 ≤ dp) (hc : c1 < 8) (ha : a1 < 4) (hj : j1 < 6) (hK : K + 8 ≤ 512) (hbb : 36 * bb + 36 ≤ 9999) (hP : zP 4 8 3 K1 bb V σ1 δ1 μ1 τ1) (hK1 : K1 ≤ K + 7) (hRD : RD 1 μ μ1) (hG : zSA D cy N (zxb N 0 0) (zxa N) σ1 (zxd N) δ1 H) (ht : 0 < t1) (hs : zA μ1 38 0 c1 = 112) (hDp : zDp D cy dp V H) (hS : va_S (zRD N dp) s.heap H locs) (hl : lv_has ls 11 [(9, .int 0), (8, .int t1), (7, .int (zA μ 38 0 c1)), (6, .int (nI j1)), (5, .int (nI a1)), (4, .int (nI c1)), (0, .ref N), (1, .ref b), (2, .int (nI k1)), (3, .ref dp)]) (hcl : cells ≤ 20) (hsl : slots ≤ 120) : W p l e (zrx 10 40 240) s m args below meth c H locs cells slots (MQ below (zqM (some (.int (bI true))) (zAE D cy N dp K bb μ) (zRD N dp)) args s 40 240 (zRD N dp)) (F0 m 203 ls []) := by
  obtain ⟨hx, hb, -, -⟩ := id X
  have hA0 : ∀ q, zRD N dp q → zLA N q := fun q h => zRD_N hdp h
  refine lv_iload hx hb dL_acts_203 (lv_at hl 1 rfl) ?_
  refine lv_if_le (tgt := 237) hx hb dL_acts_205 (by decide) (fun h => absurd h (Int32.not_le.mpr ht)) (fun b1 => ?_)
  refine lv_aload_n hx hb dL_acts_208 rfl (lv_at hl 6 rfl) ?_
  refine lv_iload hx hb dL_acts_209 (lv_at hl 5 rfl) ?_
  refine zlW (As := [.ref N, .int (nI c1)]) (rest := []) X hml C0 hA0 hG (ctL_stateOf l hl0 D cy rf N (zxb N 0 0) (zxa N) σ1 (zxd N) δ1 (nI c1) hP.zv (ra_ch hP _)) zmL_stateOf (by decide) m_846 ⟨(Nat.le_of_ble_eq_true rfl), (Nat.le_of_ble_eq_true rfl)⟩ ⟨by show cells + 1 ≤ 40; omega, by show slots + 6 ≤ 240; omega⟩ rfl hl.1 rfl (Nat.le_of_ble_eq_true rfl) dL_acts_211 hS (fun q h => h.elim) (fun H locs hG hsz hfr hS => ?_)
  replace hDp := va_at.kept hDp (hfr dp (va_at.lt hDp) (fun z => z))
  rw [ra_st hP hc]
  refine lv_iload hx hb dL_acts_214 (lv_at hl 0 rfl) ?_
  refine lv_if_eq (tgt := 224) hx hb dL_acts_216 (by decide) (fun _ => ?_) (fun h => absurd h (by decide))
  refine lv_bipush (v := 112) hx hb dL_acts_224 (by decide) ?_
  refine lv_icmp_ne (tgt := 233) hx hb dL_acts_226 (by decide) (fun h => absurd h (not_not_intro hs)) (fun b3 => ?_)
  refine lv_iconst (v := 1) hx hb dL_acts_229 (by decide) ?_
  refine lv_goto (tgt := 256) hx hb dL_acts_230 (by decide) ?_
  exact zo_z (b := true) hx hb hr hlocks rfl ⟨σ1, δ1, μ1, τ1, V, hG, hDp, hP.up (by omega) (by omega), hRD⟩ hS (by omega) (by omega) dL_acts_256
set_option maxRecDepth 100000 in
set_option maxHeartbeats 4000000 in
theorem zac_149_4 (X : zX p m c s args RL cL_acts) (hml : c.maxLocals = 11) (hr : meth.sig.returnType = some .boolean) (hlocks : meth.locks = false) (hl0 : l.stackTraces = false) (hL31 : L < 2 ^ 31) (C0 : zCx s D cy rf N b L xs ak av) (hdp : N + 339 ≤ dp) (hc : c1 < 8) (ha : a1 < 4) (hj : j1 < 6) (hK : K + 8 ≤ 512) (hbb : 36 * bb + 36 ≤ 9999) (hP : zP 4 8 3 K1 bb V σ1 δ1 μ1 τ1) (hK1 : K1 ≤ K + 5) (hRD : RD 0 μ μ1) (hG : zSA D cy N (zxb N 0 0) (zxa N) σ1 (zxd N) δ1 H) (ht : 0 < t1) (hs : zA μ1 38 0 c1 = 112) (e40 : zA μ1 40 0 c1 = nI 4) (hDp : zDp D cy dp V H) (hS : va_S (zRD N dp) s.heap H locs) (hl : lv_has ls 11 [(10, .int 4), (9, .int 1), (8, .int t1), (7, .int (zA μ 38 0 c1)), (6, .int (nI j1)), (5, .int (nI a1)), (4, .int (nI c1)), (0, .ref N), (1, .ref b), (2, .int (nI k1)), (3, .ref dp)]) (hcl : cells ≤ 9) (hsl : slots ≤ 54) : W p l e (zrx 10 40 240) s m args below meth c H locs cells slots (MQ below (zqM (some (.int (bI true))) (zAE D cy N dp K bb μ) (zRD N dp)) args s 40 240 (zRD N dp)) (F0 m 149 ls []) := by
  obtain ⟨hx, hb, -, -⟩ := id X
  have hA0 : ∀ q, zRD N dp q → zLA N q := fun q h => zRD_N hdp h
  refine lv_iload hx hb dL_acts_149 (lv_at hl 0 rfl) ?_
  refine lv_iconst (v := 5) hx hb dL_acts_151 (by decide) ?_
  refine lv_icmp_ge (tgt := 203) hx hb dL_acts_152 (by decide) (fun h => absurd h (by decide)) (fun _ => ?_)
  refine lv_iload hx hb dL_acts_155 (lv_at hl 1 rfl) ?_
  refine lv_if_eq (tgt := 203) hx hb dL_acts_157 (by decide) (fun h => absurd h (by decide)) (fun _ => ?_)
  refine lv_aload_n hx hb dL_acts_160 rfl (lv_at hl 7 rfl) ?_
  refine lv_iload hx hb dL_acts_161 (lv_at hl 6 rfl) ?_
  refine lv_iload hx hb dL_acts_163 (lv_at hl 0 rfl) ?_
  refine lv_iconst (v := 4) hx hb dL_acts_165 (by decide) ?_
  refine lv_icmp_ne (tgt := 178) hx hb dL_acts_166 (by decide) (fun h => absurd h (by decide)) (fun _ => ?_)
  refine lv_iload hx hb dL_acts_169 (lv_at hl 5 rfl) ?_
  refine lv_iconst (v := 1) hx hb dL_acts_171 (by decide) ?_
  refine lv_iadd hx hb dL_acts_172 ?_
  rw [show ((nI a1) + 1 : Int32) = nI (a1 + 1) from nI_1 a1]
  refine lv_iconst (v := 4) hx hb dL_acts_173 (by decide) ?_
  refine lv_irem hx hb dL_acts_174 (by decide) ?_
  rw [show ((nI (a1 + 1)) - (nI (a1 + 1)) / 4 * 4 : Int32) = nI ((a1 + 1) % 4) from pk_rem (d := 4) (by omega) (by decide) (by decide)]
  refine lv_goto (tgt := 180) hx hb dL_acts_175 (by decide) ?_
  refine zlW (As := [.ref N, .int (nI c1), .int (nI ((a1 + 1) % 4))]) (rest := []) X hml C0 hA0 hG (ctL_step l hl0 D cy rf N (zxb N 0 0) (zxa N) σ1 (zxd N) δ1 zu_J (nI c1) (nI ((a1 + 1) % 4)) hP.zv hP.dc (hP.df (by omega))) zmL_step (by decide) m_861 ⟨(Nat.le_of_ble_eq_true rfl), (Nat.le_of_ble_eq_true rfl)⟩ ⟨by show cells + 1 ≤ 40; omega, by show slots + 6 ≤ 240; omega⟩ rfl hl.1 rfl (Nat.le_of_ble_eq_true rfl) dL_acts_180 hS (fun q h => Or.inl h) (fun H locs hG hsz hfr hS => ?_)
  replace hDp := va_at.kept hDp (hfr dp (va_at.lt hDp) (fun z => by have := zu_ra z; omega))
  obtain ⟨μ_1, τ_1, hP_1, hF⟩ := pf_6 hP (by omega) hc (by decide : 4 ≤ 4) (show ((a1 + 1) % 4) < 4 by omega) hs (show zA μ1 40 0 c1 = nI 4 from e40)
  generalize zans (k_ref σ1 (nI 6) (nI c1) (nI ((a1 + 1) % 4)) 0 0) (k_pr σ1 (nI 6) (nI c1) (nI ((a1 + 1) % 4)) 0 0) = t_1 at hF ⊢
  generalize k_nS σ1 6 (nI c1) (nI ((a1 + 1) % 4)) 0 0 = σ_1 at hG hP_1
  generalize k_nD σ1 δ1 6 (nI c1) (nI ((a1 + 1) % 4)) 0 0 = δ_1 at hG hP_1
  rcases hF with ⟨g1, g2, g3, g4, g5⟩ | ⟨g1, g2, g3, g4⟩ | ⟨g1, g2⟩
  · exact absurd g3 (by decide)
  · refine lv_iload hx hb dL_acts_183 (lv_at hl 0 rfl) ?_
    refine lv_iconst (v := 1) hx hb dL_acts_185 (by decide) ?_
    refine lv_iadd hx hb dL_acts_186 ?_
    refine lv_icmp_ne (tgt := 194) hx hb dL_acts_187 (by decide) (fun h => absurd h (not_not_intro (show t_1 = 5 from g1))) (fun b4 => ?_)
    refine lv_iconst (v := 1) hx hb dL_acts_190 (by decide) ?_
    refine lv_goto (tgt := 195) hx hb dL_acts_191 (by decide) ?_
    refine lv_istore (lv' := [(9, .int 1), (10, .int 4), (8, .int t1), (7, .int (zA μ 38 0 c1)), (6, .int (nI j1)), (5, .int (nI a1)), (4, .int (nI c1)), (0, .ref N), (1, .ref b), (2, .int (nI k1)), (3, .ref dp)]) hx hb dL_acts_195 hl (by decide) rfl (fun ls hl => ?_)
    refine lv_iinc (v := 5) (lv' := [(10, .int 5), (9, .int 1), (8, .int t1), (7, .int (zA μ 38 0 c1)), (6, .int (nI j1)), (5, .int (nI a1)), (4, .int (nI c1)), (0, .ref N), (1, .ref b), (2, .int (nI k1)), (3, .ref dp)]) hx hb dL_acts_197 hl (k := 1) rfl rfl (by decide) rfl (fun ls hl => ?_)
    refine lv_goto (tgt := 149) hx hb dL_acts_200 (by decide) ?_
    refine lv_iload hx hb dL_acts_149 (lv_at hl 0 rfl) ?_
    refine lv_iconst (v := 5) hx hb dL_acts_151 (by decide) ?_
    refine lv_icmp_ge (tgt := 203) hx hb dL_acts_152 (by decide) (fun _ => ?_) (fun h => absurd h (by decide))
    exact zac_203_1 X hml hr hlocks hl0 hL31 C0 hdp hc ha hj hK hbb (K1 := K1 + 1) hP_1 (by omega) (RD_tr hRD g2) hG ht g4 hDp hS (lv_sub hl [1, 2, 3, 4, 5, 6, 7, 8, 9, 10] rfl) (by omega) (by omega)
  · have g2 := g2.symm
    subst g2
    refine lv_iload hx hb dL_acts_183 (lv_at hl 0 rfl) ?_
    refine lv_iconst (v := 1) hx hb dL_acts_185 (by decide) ?_
    refine lv_iadd hx hb dL_acts_186 ?_
    refine lv_icmp_ne (tgt := 194) hx hb dL_acts_187 (by decide) (fun b6 => ?_) (fun h => absurd h (show ¬ t_1 = 5 from fun z => by rw [z] at g1; exact absurd g1 (by decide)))
    refine lv_iconst (v := 0) hx hb dL_acts_194 (by decide) ?_
    refine lv_istore (lv' := [(9, .int 0), (10, .int 4), (8, .int t1), (7, .int (zA μ 38 0 c1)), (6, .int (nI j1)), (5, .int (nI a1)), (4, .int (nI c1)), (0, .ref N), (1, .ref b), (2, .int (nI k1)), (3, .ref dp)]) hx hb dL_acts_195 hl (by decide) rfl (fun ls hl => ?_)
    refine lv_iinc (v := 5) (lv' := [(10, .int 5), (9, .int 0), (8, .int t1), (7, .int (zA μ 38 0 c1)), (6, .int (nI j1)), (5, .int (nI a1)), (4, .int (nI c1)), (0, .ref N), (1, .ref b), (2, .int (nI k1)), (3, .ref dp)]) hx hb dL_acts_197 hl (k := 1) rfl rfl (by decide) rfl (fun ls hl => ?_)
    refine lv_goto (tgt := 149) hx hb dL_acts_200 (by decide) ?_
    refine lv_iload hx hb dL_acts_149 (lv_at hl 0 rfl) ?_
    refine lv_iconst (v := 5) hx hb dL_acts_151 (by decide) ?_
    refine lv_icmp_ge (tgt := 203) hx hb dL_acts_152 (by decide) (fun _ => ?_) (fun h => absurd h (by decide))
    exact zac_203_0 X hml hr hlocks hl0 hL31 C0 hdp hc ha hj hK hbb (K1 := K1 + 1) hP_1 (by omega) (RD_up hRD (by decide)) hG ht hs hDp hS (lv_sub hl [1, 2, 3, 4, 5, 6, 7, 8, 9, 10] rfl) (by omega) (by omega)
set_option maxRecDepth 100000 in
set_option maxHeartbeats 4000000 in
theorem zac_149_3 (X : zX p m c s args RL cL_acts) (hml : c.maxLocals = 11) (hr : meth.sig.returnType = some .boolean) (hlocks : meth.locks = false) (hl0 : l.stackTraces = false) (hL31 : L < 2 ^ 31) (C0 : zCx s D cy rf N b L xs ak av) (hdp : N + 339 ≤ dp) (hc : c1 < 8) (ha : a1 < 4) (hj : j1 < 6) (hK : K + 8 ≤ 512) (hbb : 36 * bb + 36 ≤ 9999) (hP : zP 4 8 3 K1 bb V σ1 δ1 μ1 τ1) (hK1 : K1 ≤ K + 4) (hRD : RD 0 μ μ1) (hG : zSA D cy N (zxb N 0 0) (zxa N) σ1 (zxd N) δ1 H) (ht : 0 < t1) (hs : zA μ1 38 0 c1 = 112) (e40 : zA μ1 40 0 c1 = nI 3) (hDp : zDp D cy dp V H) (hS : va_S (zRD N dp) s.heap H locs) (hl : lv_has ls 11 [(10, .int 3), (9, .int 1), (8, .int t1), (7, .int (zA μ 38 0 c1)), (6, .int (nI j1)), (5, .int (nI a1)), (4, .int (nI c1)), (0, .ref N), (1, .ref b), (2, .int (nI k1)), (3, .ref dp)]) (hcl : cells ≤ 8) (hsl : slots ≤ 48) : W p l e (zrx 10 40 240) s m args below meth c H locs cells slots (MQ below (zqM (some (.int (bI true))) (zAE D cy N dp K bb μ) (zRD N dp)) args s 40 240 (zRD N dp)) (F0 m 149 ls []) := by
  obtain ⟨hx, hb, -, -⟩ := id X
  have hA0 : ∀ q, zRD N dp q → zLA N q := fun q h => zRD_N hdp h
  refine lv_iload hx hb dL_acts_149 (lv_at hl 0 rfl) ?_
  refine lv_iconst (v := 5) hx hb dL_acts_151 (by decide) ?_
  refine lv_icmp_ge (tgt := 203) hx hb dL_acts_152 (by decide) (fun h => absurd h (by decide)) (fun _ => ?_)
  refine lv_iload hx hb dL_acts_155 (lv_at hl 1 rfl) ?_
  refine lv_if_eq (tgt := 203) hx hb dL_acts_157 (by decide) (fun h => absurd h (by decide)) (fun _ => ?_)
  refine lv_aload_n hx hb dL_acts_160 rfl (lv_at hl 7 rfl) ?_
  refine lv_iload hx hb dL_acts_161 (lv_at hl 6 rfl) ?_
  refine lv_iload hx hb dL_acts_163 (lv_at hl 0 rfl) ?_
  refine lv_iconst (v := 4) hx hb dL_acts_165 (by decide) ?_
  refine lv_icmp_ne (tgt := 178) hx hb dL_acts_166 (by decide) (fun _ => ?_) (fun h => absurd h (by decide))
  refine lv_iload hx hb dL_acts_178 (lv_at hl 5 rfl) ?_
  refine zlW (As := [.ref N, .int (nI c1), .int (nI a1)]) (rest := []) X hml C0 hA0 hG (ctL_step l hl0 D cy rf N (zxb N 0 0) (zxa N) σ1 (zxd N) δ1 zu_J (nI c1) (nI a1) hP.zv hP.dc (hP.df (by omega))) zmL_step (by decide) m_861 ⟨(Nat.le_of_ble_eq_true rfl), (Nat.le_of_ble_eq_true rfl)⟩ ⟨by show cells + 1 ≤ 40; omega, by show slots + 6 ≤ 240; omega⟩ rfl hl.1 rfl (Nat.le_of_ble_eq_true rfl) dL_acts_180 hS (fun q h => Or.inl h) (fun H locs hG hsz hfr hS => ?_)
  replace hDp := va_at.kept hDp (hfr dp (va_at.lt hDp) (fun z => by have := zu_ra z; omega))
  obtain ⟨μ_2, τ_2, hP_2, hF⟩ := pf_6 hP (by omega) hc (by decide : 3 ≤ 4) (show a1 < 4 by omega) hs (show zA μ1 40 0 c1 = nI 3 from e40)
  generalize zans (k_ref σ1 (nI 6) (nI c1) (nI a1) 0 0) (k_pr σ1 (nI 6) (nI c1) (nI a1) 0 0) = t_2 at hF ⊢
  generalize k_nS σ1 6 (nI c1) (nI a1) 0 0 = σ_2 at hG hP_2
  generalize k_nD σ1 δ1 6 (nI c1) (nI a1) 0 0 = δ_2 at hG hP_2
  rcases hF with ⟨g1, g2, g3, g4, g5⟩ | ⟨g1, g2, g3, g4⟩ | ⟨g1, g2⟩
  · refine lv_iload hx hb dL_acts_183 (lv_at hl 0 rfl) ?_
    refine lv_iconst (v := 1) hx hb dL_acts_185 (by decide) ?_
    refine lv_iadd hx hb dL_acts_186 ?_
    refine lv_icmp_ne (tgt := 194) hx hb dL_acts_187 (by decide) (fun h => absurd h (not_not_intro (show t_2 = 4 from g1))) (fun b4 => ?_)
    refine lv_iconst (v := 1) hx hb dL_acts_190 (by decide) ?_
    refine lv_goto (tgt := 195) hx hb dL_acts_191 (by decide) ?_
    refine lv_istore (lv' := [(9, .int 1), (10, .int 3), (8, .int t1), (7, .int (zA μ 38 0 c1)), (6, .int (nI j1)), (5, .int (nI a1)), (4, .int (nI c1)), (0, .ref N), (1, .ref b), (2, .int (nI k1)), (3, .ref dp)]) hx hb dL_acts_195 hl (by decide) rfl (fun ls hl => ?_)
    refine lv_iinc (v := 4) (lv' := [(10, .int 4), (9, .int 1), (8, .int t1), (7, .int (zA μ 38 0 c1)), (6, .int (nI j1)), (5, .int (nI a1)), (4, .int (nI c1)), (0, .ref N), (1, .ref b), (2, .int (nI k1)), (3, .ref dp)]) hx hb dL_acts_197 hl (k := 1) rfl rfl (by decide) rfl (fun ls hl => ?_)
    refine lv_goto (tgt := 149) hx hb dL_acts_200 (by decide) ?_
    exact zac_149_4 X hml hr hlocks hl0 hL31 C0 hdp hc ha hj hK hbb (K1 := K1 + 1) (V := V) hP_2 (by omega) (RD_tr hRD g2) hG ht g4 g5 hDp hS (lv_sub hl [0, 1, 2, 3, 4, 5, 6, 7, 8, 9, 10] rfl) (by omega) (by omega)
  · exact absurd g3 (by decide)
  · have g2 := g2.symm
    subst g2
    refine lv_iload hx hb dL_acts_183 (lv_at hl 0 rfl) ?_
    refine lv_iconst (v := 1) hx hb dL_acts_185 (by decide) ?_
    refine lv_iadd hx hb dL_acts_186 ?_
    refine lv_icmp_ne (tgt := 194) hx hb dL_acts_187 (by decide) (fun b5 => ?_) (fun h => absurd h (show ¬ t_2 = 4 from fun z => by rw [z] at g1; exact absurd g1 (by decide)))
    refine lv_iconst (v := 0) hx hb dL_acts_194 (by decide) ?_
    refine lv_istore (lv' := [(9, .int 0), (10, .int 3), (8, .int t1), (7, .int (zA μ 38 0 c1)), (6, .int (nI j1)), (5, .int (nI a1)), (4, .int (nI c1)), (0, .ref N), (1, .ref b), (2, .int (nI k1)), (3, .ref dp)]) hx hb dL_acts_195 hl (by decide) rfl (fun ls hl => ?_)
    refine lv_iinc (v := 4) (lv' := [(10, .int 4), (9, .int 0), (8, .int t1), (7, .int (zA μ 38 0 c1)), (6, .int (nI j1)), (5, .int (nI a1)), (4, .int (nI c1)), (0, .ref N), (1, .ref b), (2, .int (nI k1)), (3, .ref dp)]) hx hb dL_acts_197 hl (k := 1) rfl rfl (by decide) rfl (fun ls hl => ?_)
    refine lv_goto (tgt := 149) hx hb dL_acts_200 (by decide) ?_
    refine lv_iload hx hb dL_acts_149 (lv_at hl 0 rfl) ?_
    refine lv_iconst (v := 5) hx hb dL_acts_151 (by decide) ?_
    refine lv_icmp_ge (tgt := 203) hx hb dL_acts_152 (by decide) (fun h => absurd h (by decide)) (fun _ => ?_)
    refine lv_iload hx hb dL_acts_155 (lv_at hl 1 rfl) ?_
    refine lv_if_eq (tgt := 203) hx hb dL_acts_157 (by decide) (fun _ => ?_) (fun h => absurd h (by decide))
    exact zac_203_0 X hml hr hlocks hl0 hL31 C0 hdp hc ha hj hK hbb (K1 := K1 + 1) hP_2 (by omega) (RD_up hRD (by decide)) hG ht hs hDp hS (lv_sub hl [1, 2, 3, 4, 5, 6, 7, 8, 9, 10] rfl) (by omega) (by omega)
set_option maxRecDepth 100000 in
set_option maxHeartbeats 4000000 in
theorem zac_149_2 (X : zX p m c s args RL cL_acts) (hml : c.maxLocals = 11) (hr : meth.sig.returnType = some .boolean) (hlocks : meth.locks = false) (hl0 : l.stackTraces = false) (hL31 : L < 2 ^ 31) (C0 : zCx s D cy rf N b L xs ak av) (hdp : N + 339 ≤ dp) (hc : c1 < 8) (ha : a1 < 4) (hj : j1 < 6) (hK : K + 8 ≤ 512) (hbb : 36 * bb + 36 ≤ 9999) (hP : zP 4 8 3 K1 bb V σ1 δ1 μ1 τ1) (hK1 : K1 ≤ K + 3) (hRD : RD 0 μ μ1) (hG : zSA D cy N (zxb N 0 0) (zxa N) σ1 (zxd N) δ1 H) (ht : 0 < t1) (hs : zA μ1 38 0 c1 = 112) (e40 : zA μ1 40 0 c1 = nI 2) (hDp : zDp D cy dp V H) (hS : va_S (zRD N dp) s.heap H locs) (hl : lv_has ls 11 [(10, .int 2), (9, .int 1), (8, .int t1), (7, .int (zA μ 38 0 c1)), (6, .int (nI j1)), (5, .int (nI a1)), (4, .int (nI c1)), (0, .ref N), (1, .ref b), (2, .int (nI k1)), (3, .ref dp)]) (hcl : cells ≤ 7) (hsl : slots ≤ 42) : W p l e (zrx 10 40 240) s m args below meth c H locs cells slots (MQ below (zqM (some (.int (bI true))) (zAE D cy N dp K bb μ) (zRD N dp)) args s 40 240 (zRD N dp)) (F0 m 149 ls []) := by
  obtain ⟨hx, hb, -, -⟩ := id X
  have hA0 : ∀ q, zRD N dp q → zLA N q := fun q h => zRD_N hdp h
  refine lv_iload hx hb dL_acts_149 (lv_at hl 0 rfl) ?_
  refine lv_iconst (v := 5) hx hb dL_acts_151 (by decide) ?_
  refine lv_icmp_ge (tgt := 203) hx hb dL_acts_152 (by decide) (fun h => absurd h (by decide)) (fun _ => ?_)
  refine lv_iload hx hb dL_acts_155 (lv_at hl 1 rfl) ?_
  refine lv_if_eq (tgt := 203) hx hb dL_acts_157 (by decide) (fun h => absurd h (by decide)) (fun _ => ?_)
  refine lv_aload_n hx hb dL_acts_160 rfl (lv_at hl 7 rfl) ?_
  refine lv_iload hx hb dL_acts_161 (lv_at hl 6 rfl) ?_
  refine lv_iload hx hb dL_acts_163 (lv_at hl 0 rfl) ?_
  refine lv_iconst (v := 4) hx hb dL_acts_165 (by decide) ?_
  refine lv_icmp_ne (tgt := 178) hx hb dL_acts_166 (by decide) (fun _ => ?_) (fun h => absurd h (by decide))
  refine lv_iload hx hb dL_acts_178 (lv_at hl 5 rfl) ?_
  refine zlW (As := [.ref N, .int (nI c1), .int (nI a1)]) (rest := []) X hml C0 hA0 hG (ctL_step l hl0 D cy rf N (zxb N 0 0) (zxa N) σ1 (zxd N) δ1 zu_J (nI c1) (nI a1) hP.zv hP.dc (hP.df (by omega))) zmL_step (by decide) m_861 ⟨(Nat.le_of_ble_eq_true rfl), (Nat.le_of_ble_eq_true rfl)⟩ ⟨by show cells + 1 ≤ 40; omega, by show slots + 6 ≤ 240; omega⟩ rfl hl.1 rfl (Nat.le_of_ble_eq_true rfl) dL_acts_180 hS (fun q h => Or.inl h) (fun H locs hG hsz hfr hS => ?_)
  replace hDp := va_at.kept hDp (hfr dp (va_at.lt hDp) (fun z => by have := zu_ra z; omega))
  obtain ⟨μ_3, τ_3, hP_3, hF⟩ := pf_6 hP (by omega) hc (by decide : 2 ≤ 4) (show a1 < 4 by omega) hs (show zA μ1 40 0 c1 = nI 2 from e40)
  generalize zans (k_ref σ1 (nI 6) (nI c1) (nI a1) 0 0) (k_pr σ1 (nI 6) (nI c1) (nI a1) 0 0) = t_3 at hF ⊢
  generalize k_nS σ1 6 (nI c1) (nI a1) 0 0 = σ_3 at hG hP_3
  generalize k_nD σ1 δ1 6 (nI c1) (nI a1) 0 0 = δ_3 at hG hP_3
  rcases hF with ⟨g1, g2, g3, g4, g5⟩ | ⟨g1, g2, g3, g4⟩ | ⟨g1, g2⟩
  · refine lv_iload hx hb dL_acts_183 (lv_at hl 0 rfl) ?_
    refine lv_iconst (v := 1) hx hb dL_acts_185 (by decide) ?_
    refine lv_iadd hx hb dL_acts_186 ?_
    refine lv_icmp_ne (tgt := 194) hx hb dL_acts_187 (by decide) (fun h => absurd h (not_not_intro (show t_3 = 3 from g1))) (fun b4 => ?_)
    refine lv_iconst (v := 1) hx hb dL_acts_190 (by decide) ?_
    refine lv_goto (tgt := 195) hx hb dL_acts_191 (by decide) ?_
    refine lv_istore (lv' := [(9, .int 1), (10, .int 2), (8, .int t1), (7, .int (zA μ 38 0 c1)), (6, .int (nI j1)), (5, .int (nI a1)), (4, .int (nI c1)), (0, .ref N), (1, .ref b), (2, .int (nI k1)), (3, .ref dp)]) hx hb dL_acts_195 hl (by decide) rfl (fun ls hl => ?_)
    refine lv_iinc (v := 3) (lv' := [(10, .int 3), (9, .int 1), (8, .int t1), (7, .int (zA μ 38 0 c1)), (6, .int (nI j1)), (5, .int (nI a1)), (4, .int (nI c1)), (0, .ref N), (1, .ref b), (2, .int (nI k1)), (3, .ref dp)]) hx hb dL_acts_197 hl (k := 1) rfl rfl (by decide) rfl (fun ls hl => ?_)
    refine lv_goto (tgt := 149) hx hb dL_acts_200 (by decide) ?_
    exact zac_149_3 X hml hr hlocks hl0 hL31 C0 hdp hc ha hj hK hbb (K1 := K1 + 1) (V := V) hP_3 (by omega) (RD_tr hRD g2) hG ht g4 g5 hDp hS (lv_sub hl [0, 1, 2, 3, 4, 5, 6, 7, 8, 9, 10] rfl) (by omega) (by omega)
  · exact absurd g3 (by decide)
  · have g2 := g2.symm
    subst g2
    refine lv_iload hx hb dL_acts_183 (lv_at hl 0 rfl) ?_
    refine lv_iconst (v := 1) hx hb dL_acts_185 (by decide) ?_
    refine lv_iadd hx hb dL_acts_186 ?_
    refine lv_icmp_ne (tgt := 194) hx hb dL_acts_187 (by decide) (fun b5 => ?_) (fun h => absurd h (show ¬ t_3 = 3 from fun z => by rw [z] at g1; exact absurd g1 (by decide)))
    refine lv_iconst (v := 0) hx hb dL_acts_194 (by decide) ?_
    refine lv_istore (lv' := [(9, .int 0), (10, .int 2), (8, .int t1), (7, .int (zA μ 38 0 c1)), (6, .int (nI j1)), (5, .int (nI a1)), (4, .int (nI c1)), (0, .ref N), (1, .ref b), (2, .int (nI k1)), (3, .ref dp)]) hx hb dL_acts_195 hl (by decide) rfl (fun ls hl => ?_)
    refine lv_iinc (v := 3) (lv' := [(10, .int 3), (9, .int 0), (8, .int t1), (7, .int (zA μ 38 0 c1)), (6, .int (nI j1)), (5, .int (nI a1)), (4, .int (nI c1)), (0, .ref N), (1, .ref b), (2, .int (nI k1)), (3, .ref dp)]) hx hb dL_acts_197 hl (k := 1) rfl rfl (by decide) rfl (fun ls hl => ?_)
    refine lv_goto (tgt := 149) hx hb dL_acts_200 (by decide) ?_
    refine lv_iload hx hb dL_acts_149 (lv_at hl 0 rfl) ?_
    refine lv_iconst (v := 5) hx hb dL_acts_151 (by decide) ?_
    refine lv_icmp_ge (tgt := 203) hx hb dL_acts_152 (by decide) (fun h => absurd h (by decide)) (fun _ => ?_)
    refine lv_iload hx hb dL_acts_155 (lv_at hl 1 rfl) ?_
    refine lv_if_eq (tgt := 203) hx hb dL_acts_157 (by decide) (fun _ => ?_) (fun h => absurd h (by decide))
    exact zac_203_0 X hml hr hlocks hl0 hL31 C0 hdp hc ha hj hK hbb (K1 := K1 + 1) hP_3 (by omega) (RD_up hRD (by decide)) hG ht hs hDp hS (lv_sub hl [1, 2, 3, 4, 5, 6, 7, 8, 9, 10] rfl) (by omega) (by omega)
set_option maxRecDepth 100000 in
set_option maxHeartbeats 4000000 in
theorem zac_149_1 (X : zX p m c s args RL cL_acts) (hml : c.maxLocals = 11) (hr : meth.sig.returnType = some .boolean) (hlocks : meth.locks = false) (hl0 : l.stackTraces = false) (hL31 : L < 2 ^ 31) (C0 : zCx s D cy rf N b L xs ak av) (hdp : N + 339 ≤ dp) (hc : c1 < 8) (ha : a1 < 4) (hj : j1 < 6) (hK : K + 8 ≤ 512) (hbb : 36 * bb + 36 ≤ 9999) (hP : zP 4 8 3 K1 bb V σ1 δ1 μ1 τ1) (hK1 : K1 ≤ K + 2) (hRD : RD 0 μ μ1) (hG : zSA D cy N (zxb N 0 0) (zxa N) σ1 (zxd N) δ1 H) (ht : 0 < t1) (hs : zA μ1 38 0 c1 = 112) (e40 : zA μ1 40 0 c1 = nI 1) (hDp : zDp D cy dp V H) (hS : va_S (zRD N dp) s.heap H locs) (hl : lv_has ls 11 [(10, .int 1), (9, .int 1), (8, .int t1), (7, .int (zA μ 38 0 c1)), (6, .int (nI j1)), (5, .int (nI a1)), (4, .int (nI c1)), (0, .ref N), (1, .ref b), (2, .int (nI k1)), (3, .ref dp)]) (hcl : cells ≤ 6) (hsl : slots ≤ 36) : W p l e (zrx 10 40 240) s m args below meth c H locs cells slots (MQ below (zqM (some (.int (bI true))) (zAE D cy N dp K bb μ) (zRD N dp)) args s 40 240 (zRD N dp)) (F0 m 149 ls []) := by
  obtain ⟨hx, hb, -, -⟩ := id X
  have hA0 : ∀ q, zRD N dp q → zLA N q := fun q h => zRD_N hdp h
  refine lv_iload hx hb dL_acts_149 (lv_at hl 0 rfl) ?_
  refine lv_iconst (v := 5) hx hb dL_acts_151 (by decide) ?_
  refine lv_icmp_ge (tgt := 203) hx hb dL_acts_152 (by decide) (fun h => absurd h (by decide)) (fun _ => ?_)
  refine lv_iload hx hb dL_acts_155 (lv_at hl 1 rfl) ?_
  refine lv_if_eq (tgt := 203) hx hb dL_acts_157 (by decide) (fun h => absurd h (by decide)) (fun _ => ?_)
  refine lv_aload_n hx hb dL_acts_160 rfl (lv_at hl 7 rfl) ?_
  refine lv_iload hx hb dL_acts_161 (lv_at hl 6 rfl) ?_
  refine lv_iload hx hb dL_acts_163 (lv_at hl 0 rfl) ?_
  refine lv_iconst (v := 4) hx hb dL_acts_165 (by decide) ?_
  refine lv_icmp_ne (tgt := 178) hx hb dL_acts_166 (by decide) (fun _ => ?_) (fun h => absurd h (by decide))
  refine lv_iload hx hb dL_acts_178 (lv_at hl 5 rfl) ?_
  refine zlW (As := [.ref N, .int (nI c1), .int (nI a1)]) (rest := []) X hml C0 hA0 hG (ctL_step l hl0 D cy rf N (zxb N 0 0) (zxa N) σ1 (zxd N) δ1 zu_J (nI c1) (nI a1) hP.zv hP.dc (hP.df (by omega))) zmL_step (by decide) m_861 ⟨(Nat.le_of_ble_eq_true rfl), (Nat.le_of_ble_eq_true rfl)⟩ ⟨by show cells + 1 ≤ 40; omega, by show slots + 6 ≤ 240; omega⟩ rfl hl.1 rfl (Nat.le_of_ble_eq_true rfl) dL_acts_180 hS (fun q h => Or.inl h) (fun H locs hG hsz hfr hS => ?_)
  replace hDp := va_at.kept hDp (hfr dp (va_at.lt hDp) (fun z => by have := zu_ra z; omega))
  obtain ⟨μ_4, τ_4, hP_4, hF⟩ := pf_6 hP (by omega) hc (by decide : 1 ≤ 4) (show a1 < 4 by omega) hs (show zA μ1 40 0 c1 = nI 1 from e40)
  generalize zans (k_ref σ1 (nI 6) (nI c1) (nI a1) 0 0) (k_pr σ1 (nI 6) (nI c1) (nI a1) 0 0) = t_4 at hF ⊢
  generalize k_nS σ1 6 (nI c1) (nI a1) 0 0 = σ_4 at hG hP_4
  generalize k_nD σ1 δ1 6 (nI c1) (nI a1) 0 0 = δ_4 at hG hP_4
  rcases hF with ⟨g1, g2, g3, g4, g5⟩ | ⟨g1, g2, g3, g4⟩ | ⟨g1, g2⟩
  · refine lv_iload hx hb dL_acts_183 (lv_at hl 0 rfl) ?_
    refine lv_iconst (v := 1) hx hb dL_acts_185 (by decide) ?_
    refine lv_iadd hx hb dL_acts_186 ?_
    refine lv_icmp_ne (tgt := 194) hx hb dL_acts_187 (by decide) (fun h => absurd h (not_not_intro (show t_4 = 2 from g1))) (fun b4 => ?_)
    refine lv_iconst (v := 1) hx hb dL_acts_190 (by decide) ?_
    refine lv_goto (tgt := 195) hx hb dL_acts_191 (by decide) ?_
    refine lv_istore (lv' := [(9, .int 1), (10, .int 1), (8, .int t1), (7, .int (zA μ 38 0 c1)), (6, .int (nI j1)), (5, .int (nI a1)), (4, .int (nI c1)), (0, .ref N), (1, .ref b), (2, .int (nI k1)), (3, .ref dp)]) hx hb dL_acts_195 hl (by decide) rfl (fun ls hl => ?_)
    refine lv_iinc (v := 2) (lv' := [(10, .int 2), (9, .int 1), (8, .int t1), (7, .int (zA μ 38 0 c1)), (6, .int (nI j1)), (5, .int (nI a1)), (4, .int (nI c1)), (0, .ref N), (1, .ref b), (2, .int (nI k1)), (3, .ref dp)]) hx hb dL_acts_197 hl (k := 1) rfl rfl (by decide) rfl (fun ls hl => ?_)
    refine lv_goto (tgt := 149) hx hb dL_acts_200 (by decide) ?_
    exact zac_149_2 X hml hr hlocks hl0 hL31 C0 hdp hc ha hj hK hbb (K1 := K1 + 1) (V := V) hP_4 (by omega) (RD_tr hRD g2) hG ht g4 g5 hDp hS (lv_sub hl [0, 1, 2, 3, 4, 5, 6, 7, 8, 9, 10] rfl) (by omega) (by omega)
  · exact absurd g3 (by decide)
  · have g2 := g2.symm
    subst g2
    refine lv_iload hx hb dL_acts_183 (lv_at hl 0 rfl) ?_
    refine lv_iconst (v := 1) hx hb dL_acts_185 (by decide) ?_
    refine lv_iadd hx hb dL_acts_186 ?_
    refine lv_icmp_ne (tgt := 194) hx hb dL_acts_187 (by decide) (fun b5 => ?_) (fun h => absurd h (show ¬ t_4 = 2 from fun z => by rw [z] at g1; exact absurd g1 (by decide)))
    refine lv_iconst (v := 0) hx hb dL_acts_194 (by decide) ?_
    refine lv_istore (lv' := [(9, .int 0), (10, .int 1), (8, .int t1), (7, .int (zA μ 38 0 c1)), (6, .int (nI j1)), (5, .int (nI a1)), (4, .int (nI c1)), (0, .ref N), (1, .ref b), (2, .int (nI k1)), (3, .ref dp)]) hx hb dL_acts_195 hl (by decide) rfl (fun ls hl => ?_)
    refine lv_iinc (v := 2) (lv' := [(10, .int 2), (9, .int 0), (8, .int t1), (7, .int (zA μ 38 0 c1)), (6, .int (nI j1)), (5, .int (nI a1)), (4, .int (nI c1)), (0, .ref N), (1, .ref b), (2, .int (nI k1)), (3, .ref dp)]) hx hb dL_acts_197 hl (k := 1) rfl rfl (by decide) rfl (fun ls hl => ?_)
    refine lv_goto (tgt := 149) hx hb dL_acts_200 (by decide) ?_
    refine lv_iload hx hb dL_acts_149 (lv_at hl 0 rfl) ?_
    refine lv_iconst (v := 5) hx hb dL_acts_151 (by decide) ?_
    refine lv_icmp_ge (tgt := 203) hx hb dL_acts_152 (by decide) (fun h => absurd h (by decide)) (fun _ => ?_)
    refine lv_iload hx hb dL_acts_155 (lv_at hl 1 rfl) ?_
    refine lv_if_eq (tgt := 203) hx hb dL_acts_157 (by decide) (fun _ => ?_) (fun h => absurd h (by decide))
    exact zac_203_0 X hml hr hlocks hl0 hL31 C0 hdp hc ha hj hK hbb (K1 := K1 + 1) hP_4 (by omega) (RD_up hRD (by decide)) hG ht hs hDp hS (lv_sub hl [1, 2, 3, 4, 5, 6, 7, 8, 9, 10] rfl) (by omega) (by omega)
set_option maxRecDepth 100000 in
set_option maxHeartbeats 4000000 in
theorem zac_149_0 (X : zX p m c s args RL cL_acts) (hml : c.maxLocals = 11) (hr : meth.sig.returnType = some .boolean) (hlocks : meth.locks = false) (hl0 : l.stackTraces = false) (hL31 : L < 2 ^ 31) (C0 : zCx s D cy rf N b L xs ak av) (hdp : N + 339 ≤ dp) (hc : c1 < 8) (ha : a1 < 4) (hj : j1 < 6) (hK : K + 8 ≤ 512) (hbb : 36 * bb + 36 ≤ 9999) (hP : zP 4 8 3 K1 bb V σ1 δ1 μ1 τ1) (hK1 : K1 ≤ K + 1) (hRD : RD 0 μ μ1) (hG : zSA D cy N (zxb N 0 0) (zxa N) σ1 (zxd N) δ1 H) (ht : 0 < t1) (hs : zA μ1 38 0 c1 = 112) (e40 : zA μ1 40 0 c1 = nI 0) (hDp : zDp D cy dp V H) (hS : va_S (zRD N dp) s.heap H locs) (hl : lv_has ls 11 [(10, .int 0), (9, .int 1), (8, .int t1), (7, .int (zA μ 38 0 c1)), (6, .int (nI j1)), (5, .int (nI a1)), (4, .int (nI c1)), (0, .ref N), (1, .ref b), (2, .int (nI k1)), (3, .ref dp)]) (hcl : cells ≤ 5) (hsl : slots ≤ 30) : W p l e (zrx 10 40 240) s m args below meth c H locs cells slots (MQ below (zqM (some (.int (bI true))) (zAE D cy N dp K bb μ) (zRD N dp)) args s 40 240 (zRD N dp)) (F0 m 149 ls []) := by
  obtain ⟨hx, hb, -, -⟩ := id X
  have hA0 : ∀ q, zRD N dp q → zLA N q := fun q h => zRD_N hdp h
  refine lv_iload hx hb dL_acts_149 (lv_at hl 0 rfl) ?_
  refine lv_iconst (v := 5) hx hb dL_acts_151 (by decide) ?_
  refine lv_icmp_ge (tgt := 203) hx hb dL_acts_152 (by decide) (fun h => absurd h (by decide)) (fun _ => ?_)
  refine lv_iload hx hb dL_acts_155 (lv_at hl 1 rfl) ?_
  refine lv_if_eq (tgt := 203) hx hb dL_acts_157 (by decide) (fun h => absurd h (by decide)) (fun _ => ?_)
  refine lv_aload_n hx hb dL_acts_160 rfl (lv_at hl 7 rfl) ?_
  refine lv_iload hx hb dL_acts_161 (lv_at hl 6 rfl) ?_
  refine lv_iload hx hb dL_acts_163 (lv_at hl 0 rfl) ?_
  refine lv_iconst (v := 4) hx hb dL_acts_165 (by decide) ?_
  refine lv_icmp_ne (tgt := 178) hx hb dL_acts_166 (by decide) (fun _ => ?_) (fun h => absurd h (by decide))
  refine lv_iload hx hb dL_acts_178 (lv_at hl 5 rfl) ?_
  refine zlW (As := [.ref N, .int (nI c1), .int (nI a1)]) (rest := []) X hml C0 hA0 hG (ctL_step l hl0 D cy rf N (zxb N 0 0) (zxa N) σ1 (zxd N) δ1 zu_J (nI c1) (nI a1) hP.zv hP.dc (hP.df (by omega))) zmL_step (by decide) m_861 ⟨(Nat.le_of_ble_eq_true rfl), (Nat.le_of_ble_eq_true rfl)⟩ ⟨by show cells + 1 ≤ 40; omega, by show slots + 6 ≤ 240; omega⟩ rfl hl.1 rfl (Nat.le_of_ble_eq_true rfl) dL_acts_180 hS (fun q h => Or.inl h) (fun H locs hG hsz hfr hS => ?_)
  replace hDp := va_at.kept hDp (hfr dp (va_at.lt hDp) (fun z => by have := zu_ra z; omega))
  obtain ⟨μ_5, τ_5, hP_5, hF⟩ := pf_6 hP (by omega) hc (by decide : 0 ≤ 4) (show a1 < 4 by omega) hs (show zA μ1 40 0 c1 = nI 0 from e40)
  generalize zans (k_ref σ1 (nI 6) (nI c1) (nI a1) 0 0) (k_pr σ1 (nI 6) (nI c1) (nI a1) 0 0) = t_5 at hF ⊢
  generalize k_nS σ1 6 (nI c1) (nI a1) 0 0 = σ_5 at hG hP_5
  generalize k_nD σ1 δ1 6 (nI c1) (nI a1) 0 0 = δ_5 at hG hP_5
  rcases hF with ⟨g1, g2, g3, g4, g5⟩ | ⟨g1, g2, g3, g4⟩ | ⟨g1, g2⟩
  · refine lv_iload hx hb dL_acts_183 (lv_at hl 0 rfl) ?_
    refine lv_iconst (v := 1) hx hb dL_acts_185 (by decide) ?_
    refine lv_iadd hx hb dL_acts_186 ?_
    refine lv_icmp_ne (tgt := 194) hx hb dL_acts_187 (by decide) (fun h => absurd h (not_not_intro (show t_5 = 1 from g1))) (fun b4 => ?_)
    refine lv_iconst (v := 1) hx hb dL_acts_190 (by decide) ?_
    refine lv_goto (tgt := 195) hx hb dL_acts_191 (by decide) ?_
    refine lv_istore (lv' := [(9, .int 1), (10, .int 0), (8, .int t1), (7, .int (zA μ 38 0 c1)), (6, .int (nI j1)), (5, .int (nI a1)), (4, .int (nI c1)), (0, .ref N), (1, .ref b), (2, .int (nI k1)), (3, .ref dp)]) hx hb dL_acts_195 hl (by decide) rfl (fun ls hl => ?_)
    refine lv_iinc (v := 1) (lv' := [(10, .int 1), (9, .int 1), (8, .int t1), (7, .int (zA μ 38 0 c1)), (6, .int (nI j1)), (5, .int (nI a1)), (4, .int (nI c1)), (0, .ref N), (1, .ref b), (2, .int (nI k1)), (3, .ref dp)]) hx hb dL_acts_197 hl (k := 1) rfl rfl (by decide) rfl (fun ls hl => ?_)
    refine lv_goto (tgt := 149) hx hb dL_acts_200 (by decide) ?_
    exact zac_149_1 X hml hr hlocks hl0 hL31 C0 hdp hc ha hj hK hbb (K1 := K1 + 1) (V := V) hP_5 (by omega) (RD_tr hRD g2) hG ht g4 g5 hDp hS (lv_sub hl [0, 1, 2, 3, 4, 5, 6, 7, 8, 9, 10] rfl) (by omega) (by omega)
  · exact absurd g3 (by decide)
  · have g2 := g2.symm
    subst g2
    refine lv_iload hx hb dL_acts_183 (lv_at hl 0 rfl) ?_
    refine lv_iconst (v := 1) hx hb dL_acts_185 (by decide) ?_
    refine lv_iadd hx hb dL_acts_186 ?_
    refine lv_icmp_ne (tgt := 194) hx hb dL_acts_187 (by decide) (fun b5 => ?_) (fun h => absurd h (show ¬ t_5 = 1 from fun z => by rw [z] at g1; exact absurd g1 (by decide)))
    refine lv_iconst (v := 0) hx hb dL_acts_194 (by decide) ?_
    refine lv_istore (lv' := [(9, .int 0), (10, .int 0), (8, .int t1), (7, .int (zA μ 38 0 c1)), (6, .int (nI j1)), (5, .int (nI a1)), (4, .int (nI c1)), (0, .ref N), (1, .ref b), (2, .int (nI k1)), (3, .ref dp)]) hx hb dL_acts_195 hl (by decide) rfl (fun ls hl => ?_)
    refine lv_iinc (v := 1) (lv' := [(10, .int 1), (9, .int 0), (8, .int t1), (7, .int (zA μ 38 0 c1)), (6, .int (nI j1)), (5, .int (nI a1)), (4, .int (nI c1)), (0, .ref N), (1, .ref b), (2, .int (nI k1)), (3, .ref dp)]) hx hb dL_acts_197 hl (k := 1) rfl rfl (by decide) rfl (fun ls hl => ?_)
    refine lv_goto (tgt := 149) hx hb dL_acts_200 (by decide) ?_
    refine lv_iload hx hb dL_acts_149 (lv_at hl 0 rfl) ?_
    refine lv_iconst (v := 5) hx hb dL_acts_151 (by decide) ?_
    refine lv_icmp_ge (tgt := 203) hx hb dL_acts_152 (by decide) (fun h => absurd h (by decide)) (fun _ => ?_)
    refine lv_iload hx hb dL_acts_155 (lv_at hl 1 rfl) ?_
    refine lv_if_eq (tgt := 203) hx hb dL_acts_157 (by decide) (fun _ => ?_) (fun h => absurd h (by decide))
    exact zac_203_0 X hml hr hlocks hl0 hL31 C0 hdp hc ha hj hK hbb (K1 := K1 + 1) hP_5 (by omega) (RD_up hRD (by decide)) hG ht hs hDp hS (lv_sub hl [1, 2, 3, 4, 5, 6, 7, 8, 9, 10] rfl) (by omega) (by omega)
set_option maxRecDepth 100000 in
set_option maxHeartbeats 4000000 in
theorem zac_124 (X : zX p m c s args RL cL_acts) (hml : c.maxLocals = 11) (hr : meth.sig.returnType = some .boolean) (hlocks : meth.locks = false) (hl0 : l.stackTraces = false) (hL31 : L < 2 ^ 31) (C0 : zCx s D cy rf N b L xs ak av) (hdp : N + 339 ≤ dp) (hc : c1 < 8) (ha : a1 < 4) (hj : j1 < 6) (hK : K + 8 ≤ 512) (hbb : 36 * bb + 36 ≤ 9999) (hP : zP 4 8 3 K bb V σ δ μ τ) (hG : zSA D cy N (zxb N 0 0) (zxa N) σ (zxd N) δ H) (hDp : zDp D cy dp V H) (hS : va_S (zRD N dp) s.heap H locs) (hl : lv_has ls 11 [(7, .int (zA μ 38 0 c1)), (6, .int (nI j1)), (5, .int (nI a1)), (4, .int (nI c1)), (0, .ref N), (1, .ref b), (2, .int (nI k1)), (3, .ref dp)]) (hcl : cells ≤ 4) (hsl : slots ≤ 24) : W p l e (zrx 10 40 240) s m args below meth c H locs cells slots (MQ below (zqM (some (.int (bI true))) (zAE D cy N dp K bb μ) (zRD N dp)) args s 40 240 (zRD N dp)) (F0 m 124 ls []) := by
  obtain ⟨hx, hb, -, -⟩ := id X
  have hA0 : ∀ q, zRD N dp q → zLA N q := fun q h => zRD_N hdp h
  refine lv_aload_n hx hb dL_acts_124 rfl (lv_at hl 4 rfl) ?_
  refine lv_iload hx hb dL_acts_125 (lv_at hl 3 rfl) ?_
  refine lv_iload hx hb dL_acts_127 (lv_at hl 1 rfl) ?_
  refine zlW (As := [.ref N, .int (nI c1), .int (nI j1)]) (rest := []) X hml C0 hA0 hG (ctL_hang l hl0 D cy rf N (zxb N 0 0) (zxa N) σ (zxd N) δ zu_J (nI c1) (nI j1) hP.zv hP.dc (hP.df (by omega))) zmL_hang (by decide) m_853 ⟨(Nat.le_of_ble_eq_true rfl), (Nat.le_of_ble_eq_true rfl)⟩ ⟨by show cells + 1 ≤ 40; omega, by show slots + 6 ≤ 240; omega⟩ rfl hl.1 rfl (Nat.le_of_ble_eq_true rfl) dL_acts_129 hS (fun q h => Or.inl h) (fun H locs hG hsz hfr hS => ?_)
  replace hDp := va_at.kept hDp (hfr dp (va_at.lt hDp) (fun z => by have := zu_ra z; omega))
  obtain ⟨μ_6, τ_6, hP_6, hF⟩ := pf_5 hP (by omega) hc hj
  generalize zans (k_ref σ (nI 5) (nI c1) (nI j1) 0 0) (k_pr σ (nI 5) (nI c1) (nI j1) 0 0) = t_6 at hF ⊢
  generalize k_nS σ 5 (nI c1) (nI j1) 0 0 = σ_6 at hG hP_6
  generalize k_nD σ δ 5 (nI c1) (nI j1) 0 0 = δ_6 at hG hP_6
  rcases hF with ⟨g1, g2, g3, g4⟩ | ⟨g1, g2, g3⟩
  · refine lv_istore (lv' := [(8, .int t_6), (7, .int (zA μ 38 0 c1)), (6, .int (nI j1)), (5, .int (nI a1)), (4, .int (nI c1)), (0, .ref N), (1, .ref b), (2, .int (nI k1)), (3, .ref dp)]) hx hb dL_acts_132 hl (by decide) rfl (fun ls hl => ?_)
    refine lv_iload hx hb dL_acts_134 (lv_at hl 0 rfl) ?_
    refine lv_if_le (tgt := 143) hx hb dL_acts_136 (by decide) (fun h => absurd h (Int32.not_le.mpr g1)) (fun b1 => ?_)
    refine lv_iconst (v := 1) hx hb dL_acts_139 (by decide) ?_
    refine lv_goto (tgt := 144) hx hb dL_acts_140 (by decide) ?_
    refine lv_istore (lv' := [(9, .int 1), (8, .int t_6), (7, .int (zA μ 38 0 c1)), (6, .int (nI j1)), (5, .int (nI a1)), (4, .int (nI c1)), (0, .ref N), (1, .ref b), (2, .int (nI k1)), (3, .ref dp)]) hx hb dL_acts_144 hl (by decide) rfl (fun ls hl => ?_)
    refine lv_iconst (v := 0) hx hb dL_acts_146 (by decide) ?_
    refine lv_istore (lv' := [(10, .int 0), (9, .int 1), (8, .int t_6), (7, .int (zA μ 38 0 c1)), (6, .int (nI j1)), (5, .int (nI a1)), (4, .int (nI c1)), (0, .ref N), (1, .ref b), (2, .int (nI k1)), (3, .ref dp)]) hx hb dL_acts_147 hl (by decide) rfl (fun ls hl => ?_)
    exact zac_149_0 X hml hr hlocks hl0 hL31 C0 hdp hc ha hj hK hbb (K1 := K + 1) (V := V) hP_6 (by omega) g2 hG g1 g3 g4 hDp hS (lv_sub hl [0, 1, 2, 3, 4, 5, 6, 7, 8, 9, 10] rfl) (by omega) (by omega)
  · have g2 := g2.symm
    subst g2
    refine lv_istore (lv' := [(8, .int t_6), (7, .int (zA μ 38 0 c1)), (6, .int (nI j1)), (5, .int (nI a1)), (4, .int (nI c1)), (0, .ref N), (1, .ref b), (2, .int (nI k1)), (3, .ref dp)]) hx hb dL_acts_132 hl (by decide) rfl (fun ls hl => ?_)
    refine lv_iload hx hb dL_acts_134 (lv_at hl 0 rfl) ?_
    refine lv_if_le (tgt := 143) hx hb dL_acts_136 (by decide) (fun b2 => ?_) (fun h => absurd (Int32.not_lt.mp g1) h)
    refine lv_iconst (v := 0) hx hb dL_acts_143 (by decide) ?_
    refine lv_istore (lv' := [(9, .int 0), (8, .int t_6), (7, .int (zA μ 38 0 c1)), (6, .int (nI j1)), (5, .int (nI a1)), (4, .int (nI c1)), (0, .ref N), (1, .ref b), (2, .int (nI k1)), (3, .ref dp)]) hx hb dL_acts_144 hl (by decide) rfl (fun ls hl => ?_)
    refine lv_iconst (v := 0) hx hb dL_acts_146 (by decide) ?_
    refine lv_istore (lv' := [(10, .int 0), (9, .int 0), (8, .int t_6), (7, .int (zA μ 38 0 c1)), (6, .int (nI j1)), (5, .int (nI a1)), (4, .int (nI c1)), (0, .ref N), (1, .ref b), (2, .int (nI k1)), (3, .ref dp)]) hx hb dL_acts_147 hl (by decide) rfl (fun ls hl => ?_)
    refine lv_iload hx hb dL_acts_149 (lv_at hl 0 rfl) ?_
    refine lv_iconst (v := 5) hx hb dL_acts_151 (by decide) ?_
    refine lv_icmp_ge (tgt := 203) hx hb dL_acts_152 (by decide) (fun h => absurd h (by decide)) (fun _ => ?_)
    refine lv_iload hx hb dL_acts_155 (lv_at hl 1 rfl) ?_
    refine lv_if_eq (tgt := 203) hx hb dL_acts_157 (by decide) (fun _ => ?_) (fun h => absurd h (by decide))
    refine lv_iload hx hb dL_acts_203 (lv_at hl 2 rfl) ?_
    refine lv_if_le (tgt := 237) hx hb dL_acts_205 (by decide) (fun b5 => ?_) (fun h => absurd (Int32.not_lt.mp g1) h)
    refine lv_iload hx hb dL_acts_237 (lv_at hl 3 rfl) ?_
    refine lv_bipush (v := 111) hx hb dL_acts_239 (by decide) ?_
    refine lv_icmp_ne (tgt := 251) hx hb dL_acts_241 (by decide) (fun b6 => ?_) (fun b6 => ?_)
    · refine lv_iconst (v := 1) hx hb dL_acts_251 (by decide) ?_
      refine lv_goto (tgt := 256) hx hb dL_acts_252 (by decide) ?_
      exact zo_z (b := true) hx hb hr hlocks rfl ⟨σ_6, δ_6, μ, τ_6, V, hG, hDp, hP_6.up (by omega) (by omega), RD_up RD_rf (by decide)⟩ hS (by omega) (by omega) dL_acts_256
    · refine lv_iload hx hb dL_acts_244 (lv_at hl 2 rfl) ?_
      refine lv_bipush (v := (-79)) hx hb dL_acts_246 (by decide) ?_
      refine lv_icmp_ne (tgt := 255) hx hb dL_acts_248 (by decide) (fun h => absurd h (not_not_intro (g3 b6))) (fun b7 => ?_)
      refine lv_iconst (v := 1) hx hb dL_acts_251 (by decide) ?_
      refine lv_goto (tgt := 256) hx hb dL_acts_252 (by decide) ?_
      exact zo_z (b := true) hx hb hr hlocks rfl ⟨σ_6, δ_6, μ, τ_6, V, hG, hDp, hP_6.up (by omega) (by omega), RD_up RD_rf (by decide)⟩ hS (by omega) (by omega) dL_acts_256
set_option maxRecDepth 100000 in
set_option maxHeartbeats 4000000 in
theorem zac_257 (X : zX p m c s args RL cL_acts) (hml : c.maxLocals = 11) (hr : meth.sig.returnType = some .boolean) (hlocks : meth.locks = false) (hl0 : l.stackTraces = false) (hL31 : L < 2 ^ 31) (C0 : zCx s D cy rf N b L xs ak av) (hdp : N + 339 ≤ dp) (hc : c1 < 8) (ha : a1 < 4) (hj : j1 < 6) (hK : K + 8 ≤ 512) (hbb : 36 * bb + 36 ≤ 9999) (hP : zP 4 8 3 K bb V σ δ μ τ) (hG : zSA D cy N (zxb N 0 0) (zxa N) σ (zxd N) δ H) (hDp : zDp D cy dp V H) (hS : va_S (zRD N dp) s.heap H locs) (hl : lv_has ls 11 [(7, .int (zA μ 38 0 c1)), (6, .int (nI j1)), (5, .int (nI a1)), (4, .int (nI c1)), (0, .ref N), (1, .ref b), (2, .int (nI k1)), (3, .ref dp)]) (hcl : cells ≤ 4) (hsl : slots ≤ 24) : W p l e (zrx 10 40 240) s m args below meth c H locs cells slots (MQ below (zqM (some (.int (bI true))) (zAE D cy N dp K bb μ) (zRD N dp)) args s 40 240 (zRD N dp)) (F0 m 257 ls []) := by
  obtain ⟨hx, hb, -, -⟩ := id X
  have hA0 : ∀ q, zRD N dp q → zLA N q := fun q h => zRD_N hdp h
  refine lv_aload_n hx hb dL_acts_257 rfl (lv_at hl 4 rfl) ?_
  refine lv_iload hx hb dL_acts_258 (lv_at hl 3 rfl) ?_
  refine zlW (As := [.ref N, .int (nI c1)]) (rest := []) X hml C0 hA0 hG (ctL_breakOff l hl0 D cy rf N (zxb N 0 0) (zxa N) σ (zxd N) δ zu_J (nI c1) hP.zv hP.dc (hP.df (by omega))) zmL_breakOff (by decide) m_868 ⟨(Nat.le_of_ble_eq_true rfl), (Nat.le_of_ble_eq_true rfl)⟩ ⟨by show cells + 1 ≤ 40; omega, by show slots + 6 ≤ 240; omega⟩ rfl hl.1 rfl (Nat.le_of_ble_eq_true rfl) dL_acts_260 hS (fun q h => Or.inl h) (fun H locs hG hsz hfr hS => ?_)
  replace hDp := va_at.kept hDp (hfr dp (va_at.lt hDp) (fun z => by have := zu_ra z; omega))
  obtain ⟨μ_7, τ_7, hP_7, hF⟩ := pf_7 hP (by omega) hc
  generalize zans (k_ref σ (nI 7) (nI c1) 0 0 0) (k_pr σ (nI 7) (nI c1) 0 0 0) = t_7 at hF ⊢
  generalize k_nS σ 7 (nI c1) 0 0 0 = σ_7 at hG hP_7
  generalize k_nD σ δ 7 (nI c1) 0 0 0 = δ_7 at hG hP_7
  rcases hF with ⟨g0, g1, g2, g3⟩ | ⟨g0, g1, g9⟩
  · refine lv_if_lt (tgt := 270) hx hb dL_acts_263 (by decide) (fun h => absurd h g1) (fun b1 => ?_)
    refine lv_iconst (v := 1) hx hb dL_acts_266 (by decide) ?_
    refine lv_goto (tgt := 271) hx hb dL_acts_267 (by decide) ?_
    refine lv_iload hx hb dL_acts_271 (lv_at hl 0 rfl) ?_
    refine lv_bipush (v := 112) hx hb dL_acts_273 (by decide) ?_
    refine lv_icmp_ne (tgt := 282) hx hb dL_acts_275 (by decide) (fun h => absurd h (not_not_intro g0)) (fun b2 => ?_)
    refine lv_iconst (v := 1) hx hb dL_acts_278 (by decide) ?_
    refine lv_goto (tgt := 283) hx hb dL_acts_279 (by decide) ?_
    refine lv_icmp_ne (tgt := 308) hx hb dL_acts_283 (by decide) (fun h => absurd h (by decide)) (fun _ => ?_)
    refine lv_iload hx hb dL_acts_286 (lv_at hl 0 rfl) ?_
    refine lv_bipush (v := 112) hx hb dL_acts_288 (by decide) ?_
    refine lv_icmp_ne (tgt := 304) hx hb dL_acts_290 (by decide) (fun h => absurd h (not_not_intro g0)) (fun b4 => ?_)
    refine lv_aload_n hx hb dL_acts_293 rfl (lv_at hl 4 rfl) ?_
    refine lv_iload hx hb dL_acts_294 (lv_at hl 3 rfl) ?_
    refine zlW (As := [.ref N, .int (nI c1)]) (rest := []) X hml C0 hA0 hG (ctL_stateOf l hl0 D cy rf N (zxb N 0 0) (zxa N) σ_7 (zxd N) δ_7 (nI c1) hP_7.zv (ra_ch hP_7 _)) zmL_stateOf (by decide) m_846 ⟨(Nat.le_of_ble_eq_true rfl), (Nat.le_of_ble_eq_true rfl)⟩ ⟨by show cells + 1 + 1 ≤ 40; omega, by show slots + 6 + 6 ≤ 240; omega⟩ rfl hl.1 rfl (Nat.le_of_ble_eq_true rfl) dL_acts_296 hS (fun q h => h.elim) (fun H locs hG hsz hfr hS => ?_)
    replace hDp := va_at.kept hDp (hfr dp (va_at.lt hDp) (fun z => z))
    rw [ra_st hP_7 hc]
    refine lv_bipush (v := 111) hx hb dL_acts_299 (by decide) ?_
    refine lv_icmp_ne (tgt := 308) hx hb dL_acts_301 (by decide) (fun h => absurd h (not_not_intro g3)) (fun b5 => ?_)
    refine lv_iconst (v := 1) hx hb dL_acts_304 (by decide) ?_
    refine lv_goto (tgt := 309) hx hb dL_acts_305 (by decide) ?_
    exact zo_z (b := true) hx hb hr hlocks rfl ⟨σ_7, δ_7, μ_7, τ_7, V, hG, hDp, hP_7.up (by omega) (by omega), RD_up g2 (by decide)⟩ hS (by omega) (by omega) dL_acts_309
  · have g9 := g9.symm
    subst g9
    refine lv_if_lt (tgt := 270) hx hb dL_acts_263 (by decide) (fun b6 => ?_) (fun h => absurd g1 h)
    refine lv_iconst (v := 0) hx hb dL_acts_270 (by decide) ?_
    refine lv_iload hx hb dL_acts_271 (lv_at hl 0 rfl) ?_
    refine lv_bipush (v := 112) hx hb dL_acts_273 (by decide) ?_
    refine lv_icmp_ne (tgt := 282) hx hb dL_acts_275 (by decide) (fun b7 => ?_) (fun h => absurd h g0)
    refine lv_iconst (v := 0) hx hb dL_acts_282 (by decide) ?_
    refine lv_icmp_ne (tgt := 308) hx hb dL_acts_283 (by decide) (fun h => absurd h (by decide)) (fun _ => ?_)
    refine lv_iload hx hb dL_acts_286 (lv_at hl 0 rfl) ?_
    refine lv_bipush (v := 112) hx hb dL_acts_288 (by decide) ?_
    refine lv_icmp_ne (tgt := 304) hx hb dL_acts_290 (by decide) (fun b9 => ?_) (fun h => absurd h g0)
    refine lv_iconst (v := 1) hx hb dL_acts_304 (by decide) ?_
    refine lv_goto (tgt := 309) hx hb dL_acts_305 (by decide) ?_
    exact zo_z (b := true) hx hb hr hlocks rfl ⟨σ_7, δ_7, μ, τ_7, V, hG, hDp, hP_7.up (by omega) (by omega), RD_up RD_rf (by decide)⟩ hS (by omega) (by omega) dL_acts_309
set_option maxRecDepth 100000 in
set_option maxHeartbeats 4000000 in
theorem zac_310 (X : zX p m c s args RL cL_acts) (hml : c.maxLocals = 11) (hr : meth.sig.returnType = some .boolean) (hlocks : meth.locks = false) (hl0 : l.stackTraces = false) (hL31 : L < 2 ^ 31) (C0 : zCx s D cy rf N b L xs ak av) (hdp : N + 339 ≤ dp) (hc : c1 < 8) (ha : a1 < 4) (hj : j1 < 6) (hK : K + 8 ≤ 512) (hbb : 36 * bb + 36 ≤ 9999) (hP : zP 4 8 3 K bb V σ δ μ τ) (hG : zSA D cy N (zxb N 0 0) (zxa N) σ (zxd N) δ H) (hDp : zDp D cy dp V H) (hS : va_S (zRD N dp) s.heap H locs) (hl : lv_has ls 11 [(7, .int (zA μ 38 0 c1)), (6, .int (nI j1)), (5, .int (nI a1)), (4, .int (nI c1)), (0, .ref N), (1, .ref b), (2, .int (nI k1)), (3, .ref dp)]) (hcl : cells ≤ 4) (hsl : slots ≤ 24) : W p l e (zrx 10 40 240) s m args below meth c H locs cells slots (MQ below (zqM (some (.int (bI true))) (zAE D cy N dp K bb μ) (zRD N dp)) args s 40 240 (zRD N dp)) (F0 m 310 ls []) := by
  obtain ⟨hx, hb, -, -⟩ := id X
  have hA0 : ∀ q, zRD N dp q → zLA N q := fun q h => zRD_N hdp h
  refine lv_aload_n hx hb dL_acts_310 rfl (lv_at hl 4 rfl) ?_
  refine lv_iload hx hb dL_acts_311 (lv_at hl 2 rfl) ?_
  refine lv_iconst (v := 2) hx hb dL_acts_313 (by decide) ?_
  refine lv_iload hx hb dL_acts_314 (lv_at hl 3 rfl) ?_
  refine lv_iconst (v := 2) hx hb dL_acts_316 (by decide) ?_
  refine lv_idiv hx hb dL_acts_317 (by decide) ?_
  rw [show ((nI c1) / 2 : Int32) = nI (c1 / 2) from pk_div (d := 2) (by omega) (by decide) (by decide)]
  refine lv_imul hx hb dL_acts_318 ?_
  rw [show (2 * (nI (c1 / 2)) : Int32) = nI (2 * (c1 / 2)) from pk_mul 2 _]
  refine lv_iconst (v := 2) hx hb dL_acts_319 (by decide) ?_
  refine lv_iload hx hb dL_acts_320 (lv_at hl 1 rfl) ?_
  refine lv_iconst (v := 4) hx hb dL_acts_322 (by decide) ?_
  refine lv_irem hx hb dL_acts_323 (by decide) ?_
  rw [show ((nI j1) - (nI j1) / 4 * 4 : Int32) = nI (j1 % 4) from pk_rem (d := 4) (by omega) (by decide) (by decide)]
  refine lv_imul hx hb dL_acts_324 ?_
  rw [show (2 * (nI (j1 % 4)) : Int32) = nI (2 * (j1 % 4)) from pk_mul 2 _]
  refine lv_iconst (v := 1) hx hb dL_acts_325 (by decide) ?_
  refine lv_iadd hx hb dL_acts_326 ?_
  rw [show ((nI (2 * (j1 % 4))) + 1 : Int32) = nI (2 * (j1 % 4) + 1) from nI_1 _]
  refine zlW (As := [.ref N, .int (nI a1), .int (nI (2 * (c1 / 2))), .int (nI (2 * (j1 % 4) + 1))]) (rest := []) X hml C0 hA0 hG (ctL_board l hl0 D cy rf N (zxb N 0 0) (zxa N) σ (zxd N) δ zu_J (nI a1) (nI (2 * (c1 / 2))) (nI (2 * (j1 % 4) + 1)) hP.zv hP.dc (hP.df (by omega))) zmL_board (by decide) m_875 ⟨(Nat.le_of_ble_eq_true rfl), (Nat.le_of_ble_eq_true rfl)⟩ ⟨by show cells + 1 ≤ 40; omega, by show slots + 6 ≤ 240; omega⟩ rfl hl.1 rfl (Nat.le_of_ble_eq_true rfl) dL_acts_327 hS (fun q h => Or.inl h) (fun H locs hG hsz hfr hS => ?_)
  replace hDp := va_at.kept hDp (hfr dp (va_at.lt hDp) (fun z => by have := zu_ra z; omega))
  obtain ⟨μ_8, τ_8, hP_8, g2, hF⟩ := pf_9 hP (by omega) (l := a1) (m := 2 * (c1 / 2)) (r := 2 * (j1 % 4) + 1) (by omega) (by omega) (by omega)
  generalize zans (k_ref σ (nI 9) (nI a1) (nI (2 * (c1 / 2))) (nI (2 * (j1 % 4) + 1)) 0) (k_pr σ (nI 9) (nI a1) (nI (2 * (c1 / 2))) (nI (2 * (j1 % 4) + 1)) 0) = t_8 at hF ⊢
  generalize k_nS σ 9 (nI a1) (nI (2 * (c1 / 2))) (nI (2 * (j1 % 4) + 1)) 0 = σ_8 at hG hP_8
  generalize k_nD σ δ 9 (nI a1) (nI (2 * (c1 / 2))) (nI (2 * (j1 % 4) + 1)) 0 = δ_8 at hG hP_8
  rcases hF with g3 | ⟨g3, g4, g5, g6⟩
  · refine lv_istore (lv' := [(8, .int t_8), (7, .int (zA μ 38 0 c1)), (6, .int (nI j1)), (5, .int (nI a1)), (4, .int (nI c1)), (0, .ref N), (1, .ref b), (2, .int (nI k1)), (3, .ref dp)]) hx hb dL_acts_330 hl (by decide) rfl (fun ls hl => ?_)
    refine lv_iload hx hb dL_acts_332 (lv_at hl 0 rfl) ?_
    refine lv_if_lt (tgt := 380) hx hb dL_acts_334 (by decide) (fun b1 => ?_) (fun h => absurd g3 h)
    refine lv_iconst (v := 1) hx hb dL_acts_380 (by decide) ?_
    refine lv_goto (tgt := 385) hx hb dL_acts_381 (by decide) ?_
    exact zo_z (b := true) hx hb hr hlocks rfl ⟨σ_8, δ_8, μ_8, τ_8, V, hG, hDp, hP_8.up (by omega) (by omega), RD_up g2 (by decide)⟩ hS (by omega) (by omega) dL_acts_385
  · refine lv_istore (lv' := [(8, .int t_8), (7, .int (zA μ 38 0 c1)), (6, .int (nI j1)), (5, .int (nI a1)), (4, .int (nI c1)), (0, .ref N), (1, .ref b), (2, .int (nI k1)), (3, .ref dp)]) hx hb dL_acts_330 hl (by decide) rfl (fun ls hl => ?_)
    refine lv_iload hx hb dL_acts_332 (lv_at hl 0 rfl) ?_
    refine lv_if_lt (tgt := 380) hx hb dL_acts_334 (by decide) (fun h => absurd h g3) (fun b2 => ?_)
    refine lv_aload_n hx hb dL_acts_337 rfl (lv_at hl 5 rfl) ?_
    refine lv_iconst (v := 2) hx hb dL_acts_338 (by decide) ?_
    refine lv_iload hx hb dL_acts_339 (lv_at hl 4 rfl) ?_
    refine lv_iconst (v := 2) hx hb dL_acts_341 (by decide) ?_
    refine lv_idiv hx hb dL_acts_342 (by decide) ?_
    rw [show ((nI c1) / 2 : Int32) = nI (c1 / 2) from pk_div (d := 2) (by omega) (by decide) (by decide)]
    refine lv_imul hx hb dL_acts_343 ?_
    rw [show (2 * (nI (c1 / 2)) : Int32) = nI (2 * (c1 / 2)) from pk_mul 2 _]
    refine zlW (As := [.ref N, .int (nI (2 * (c1 / 2)))]) (rest := []) X hml C0 hA0 hG (ctL_isGrounded l hl0 D cy rf N (zxb N 0 0) (zxa N) σ_8 (zxd N) δ_8 (nI (2 * (c1 / 2))) hP_8.zv) zmL_isGrounded (by decide) m_882 ⟨(Nat.le_of_ble_eq_true rfl), (Nat.le_of_ble_eq_true rfl)⟩ ⟨by show cells + 1 + 1 ≤ 40; omega, by show slots + 6 + 6 ≤ 240; omega⟩ rfl hl.1 rfl (Nat.le_of_ble_eq_true rfl) dL_acts_344 hS (fun q h => h.elim) (fun H locs hG hsz hfr hS => ?_)
    replace hDp := va_at.kept hDp (hfr dp (va_at.lt hDp) (fun z => z))
    rw [ra_gr hP_8 (show (2 * (c1 / 2)) < 8 by omega)]
    rw [g4]
    refine zb_ne (tgt := 384) hx hb dL_acts_347 (by decide) (fun h => absurd h (by decide)) (fun _ => ?_)
    refine lv_aload_n hx hb dL_acts_350 rfl (lv_at hl 5 rfl) ?_
    refine lv_iconst (v := 2) hx hb dL_acts_351 (by decide) ?_
    refine lv_iload hx hb dL_acts_352 (lv_at hl 2 rfl) ?_
    refine lv_iconst (v := 4) hx hb dL_acts_354 (by decide) ?_
    refine lv_irem hx hb dL_acts_355 (by decide) ?_
    rw [show ((nI j1) - (nI j1) / 4 * 4 : Int32) = nI (j1 % 4) from pk_rem (d := 4) (by omega) (by decide) (by decide)]
    refine lv_imul hx hb dL_acts_356 ?_
    rw [show (2 * (nI (j1 % 4)) : Int32) = nI (2 * (j1 % 4)) from pk_mul 2 _]
    refine lv_iconst (v := 1) hx hb dL_acts_357 (by decide) ?_
    refine lv_iadd hx hb dL_acts_358 ?_
    rw [show ((nI (2 * (j1 % 4))) + 1 : Int32) = nI (2 * (j1 % 4) + 1) from nI_1 _]
    refine zlW (As := [.ref N, .int (nI (2 * (j1 % 4) + 1))]) (rest := []) X hml C0 hA0 hG (ctL_isOut l hl0 D cy rf N (zxb N 0 0) (zxa N) σ_8 (zxd N) δ_8 (nI (2 * (j1 % 4) + 1)) hP_8.zv) zmL_isOut (by decide) m_890 ⟨(Nat.le_of_ble_eq_true rfl), (Nat.le_of_ble_eq_true rfl)⟩ ⟨by show cells + 1 + 1 + 1 ≤ 40; omega, by show slots + 6 + 6 + 6 ≤ 240; omega⟩ rfl hl.1 rfl (Nat.le_of_ble_eq_true rfl) dL_acts_359 hS (fun q h => h.elim) (fun H locs hG hsz hfr hS => ?_)
    replace hDp := va_at.kept hDp (hfr dp (va_at.lt hDp) (fun z => z))
    rw [ra_ou hP_8 (show (2 * (j1 % 4) + 1) < 8 by omega)]
    rw [g5]
    refine zb_ne (tgt := 384) hx hb dL_acts_362 (by decide) (fun h => absurd h (by decide)) (fun _ => ?_)
    refine lv_aload_n hx hb dL_acts_365 rfl (lv_at hl 5 rfl) ?_
    refine lv_iconst (v := 2) hx hb dL_acts_366 (by decide) ?_
    refine lv_iload hx hb dL_acts_367 (lv_at hl 4 rfl) ?_
    refine lv_iconst (v := 2) hx hb dL_acts_369 (by decide) ?_
    refine lv_idiv hx hb dL_acts_370 (by decide) ?_
    rw [show ((nI c1) / 2 : Int32) = nI (c1 / 2) from pk_div (d := 2) (by omega) (by decide) (by decide)]
    refine lv_imul hx hb dL_acts_371 ?_
    rw [show (2 * (nI (c1 / 2)) : Int32) = nI (2 * (c1 / 2)) from pk_mul 2 _]
    refine zlW (As := [.ref N, .int (nI (2 * (c1 / 2)))]) (rest := []) X hml C0 hA0 hG (ctL_stateOf l hl0 D cy rf N (zxb N 0 0) (zxa N) σ_8 (zxd N) δ_8 (nI (2 * (c1 / 2))) hP_8.zv (ra_ch hP_8 _)) zmL_stateOf (by decide) m_846 ⟨(Nat.le_of_ble_eq_true rfl), (Nat.le_of_ble_eq_true rfl)⟩ ⟨by show cells + 1 + 1 + 1 + 1 ≤ 40; omega, by show slots + 6 + 6 + 6 + 6 ≤ 240; omega⟩ rfl hl.1 rfl (Nat.le_of_ble_eq_true rfl) dL_acts_372 hS (fun q h => h.elim) (fun H locs hG hsz hfr hS => ?_)
    replace hDp := va_at.kept hDp (hfr dp (va_at.lt hDp) (fun z => z))
    rw [ra_st hP_8 (show (2 * (c1 / 2)) < 8 by omega)]
    refine lv_bipush (v := 97) hx hb dL_acts_375 (by decide) ?_
    refine lv_icmp_ne (tgt := 384) hx hb dL_acts_377 (by decide) (fun h => absurd h (not_not_intro g6)) (fun b5 => ?_)
    refine lv_iconst (v := 1) hx hb dL_acts_380 (by decide) ?_
    refine lv_goto (tgt := 385) hx hb dL_acts_381 (by decide) ?_
    exact zo_z (b := true) hx hb hr hlocks rfl ⟨σ_8, δ_8, μ_8, τ_8, V, hG, hDp, hP_8.up (by omega) (by omega), RD_up g2 (by decide)⟩ hS (by omega) (by omega) dL_acts_385
set_option maxRecDepth 100000 in
set_option maxHeartbeats 4000000 in
theorem zac_386 (X : zX p m c s args RL cL_acts) (hml : c.maxLocals = 11) (hr : meth.sig.returnType = some .boolean) (hlocks : meth.locks = false) (hl0 : l.stackTraces = false) (hL31 : L < 2 ^ 31) (C0 : zCx s D cy rf N b L xs ak av) (hdp : N + 339 ≤ dp) (hc : c1 < 8) (ha : a1 < 4) (hj : j1 < 6) (hK : K + 8 ≤ 512) (hbb : 36 * bb + 36 ≤ 9999) (hP : zP 4 8 3 K bb V σ δ μ τ) (hG : zSA D cy N (zxb N 0 0) (zxa N) σ (zxd N) δ H) (hDp : zDp D cy dp V H) (hS : va_S (zRD N dp) s.heap H locs) (hl : lv_has ls 11 [(7, .int (zA μ 38 0 c1)), (6, .int (nI j1)), (5, .int (nI a1)), (4, .int (nI c1)), (0, .ref N), (1, .ref b), (2, .int (nI k1)), (3, .ref dp)]) (hcl : cells ≤ 4) (hsl : slots ≤ 24) : W p l e (zrx 10 40 240) s m args below meth c H locs cells slots (MQ below (zqM (some (.int (bI true))) (zAE D cy N dp K bb μ) (zRD N dp)) args s 40 240 (zRD N dp)) (F0 m 386 ls []) := by
  obtain ⟨hx, hb, -, -⟩ := id X
  have hA0 : ∀ q, zRD N dp q → zLA N q := fun q h => zRD_N hdp h
  refine lv_aload_n hx hb dL_acts_386 rfl (lv_at hl 4 rfl) ?_
  refine lv_iload hx hb dL_acts_387 (lv_at hl 2 rfl) ?_
  refine lv_iload hx hb dL_acts_389 (lv_at hl 1 rfl) ?_
  refine zlW (As := [.ref N, .int (nI a1), .int (nI j1)]) (rest := []) X hml C0 hA0 hG (ctL_jump l hl0 D cy rf N (zxb N 0 0) (zxa N) σ (zxd N) δ zu_J (nI a1) (nI j1) hP.zv hP.dc (hP.df (by omega))) zmL_jump (by decide) m_898 ⟨(Nat.le_of_ble_eq_true rfl), (Nat.le_of_ble_eq_true rfl)⟩ ⟨by show cells + 1 ≤ 40; omega, by show slots + 6 ≤ 240; omega⟩ rfl hl.1 rfl (Nat.le_of_ble_eq_true rfl) dL_acts_391 hS (fun q h => Or.inl h) (fun H locs hG hsz hfr hS => ?_)
  replace hDp := va_at.kept hDp (hfr dp (va_at.lt hDp) (fun z => by have := zu_ra z; omega))
  obtain ⟨μ_9, τ_9, hP_9, g2, hF⟩ := pf_11 hP (by omega) (l := a1) (by omega) (nI j1)
  generalize zans (k_ref σ (nI 11) (nI a1) (nI j1) 0 0) (k_pr σ (nI 11) (nI a1) (nI j1) 0 0) = t_9 at hF ⊢
  generalize k_nS σ 11 (nI a1) (nI j1) 0 0 = σ_9 at hG hP_9
  generalize k_nD σ δ 11 (nI a1) (nI j1) 0 0 = δ_9 at hG hP_9
  rcases hF with g1 | g1 | ⟨g1, g3, g4⟩
  · refine lv_istore (lv' := [(8, .int t_9), (7, .int (zA μ 38 0 c1)), (6, .int (nI j1)), (5, .int (nI a1)), (4, .int (nI c1)), (0, .ref N), (1, .ref b), (2, .int (nI k1)), (3, .ref dp)]) hx hb dL_acts_394 hl (by decide) rfl (fun ls hl => ?_)
    refine lv_iload hx hb dL_acts_396 (lv_at hl 0 rfl) ?_
    refine lv_bipush (v := (-76)) hx hb dL_acts_398 (by decide) ?_
    refine lv_icmp_eq (tgt := 428) hx hb dL_acts_400 (by decide) (fun b1 => ?_) (fun h => absurd g1 h)
    refine lv_iconst (v := 1) hx hb dL_acts_428 (by decide) ?_
    refine lv_goto (tgt := 433) hx hb dL_acts_429 (by decide) ?_
    exact zo_z (b := true) hx hb hr hlocks rfl ⟨σ_9, δ_9, μ_9, τ_9, V, hG, hDp, hP_9.up (by omega) (by omega), RD_up g2 (by decide)⟩ hS (by omega) (by omega) dL_acts_433
  · refine lv_istore (lv' := [(8, .int t_9), (7, .int (zA μ 38 0 c1)), (6, .int (nI j1)), (5, .int (nI a1)), (4, .int (nI c1)), (0, .ref N), (1, .ref b), (2, .int (nI k1)), (3, .ref dp)]) hx hb dL_acts_394 hl (by decide) rfl (fun ls hl => ?_)
    refine lv_iload hx hb dL_acts_396 (lv_at hl 0 rfl) ?_
    refine lv_bipush (v := (-76)) hx hb dL_acts_398 (by decide) ?_
    refine lv_icmp_eq (tgt := 428) hx hb dL_acts_400 (by decide) (fun h => absurd h (fun z => by rw [z] at g1; exact absurd g1 (by decide))) (fun b2 => ?_)
    refine lv_iload hx hb dL_acts_403 (lv_at hl 0 rfl) ?_
    refine lv_bipush (v := (-77)) hx hb dL_acts_405 (by decide) ?_
    refine lv_icmp_eq (tgt := 428) hx hb dL_acts_407 (by decide) (fun b3 => ?_) (fun h => absurd g1 h)
    refine lv_iconst (v := 1) hx hb dL_acts_428 (by decide) ?_
    refine lv_goto (tgt := 433) hx hb dL_acts_429 (by decide) ?_
    exact zo_z (b := true) hx hb hr hlocks rfl ⟨σ_9, δ_9, μ_9, τ_9, V, hG, hDp, hP_9.up (by omega) (by omega), RD_up g2 (by decide)⟩ hS (by omega) (by omega) dL_acts_433
  · refine lv_istore (lv' := [(8, .int t_9), (7, .int (zA μ 38 0 c1)), (6, .int (nI j1)), (5, .int (nI a1)), (4, .int (nI c1)), (0, .ref N), (1, .ref b), (2, .int (nI k1)), (3, .ref dp)]) hx hb dL_acts_394 hl (by decide) rfl (fun ls hl => ?_)
    refine lv_iload hx hb dL_acts_396 (lv_at hl 0 rfl) ?_
    refine lv_bipush (v := (-76)) hx hb dL_acts_398 (by decide) ?_
    refine lv_icmp_eq (tgt := 428) hx hb dL_acts_400 (by decide) (fun h => absurd h (fun z => by rw [z] at g1; exact absurd g1 (by decide))) (fun b4 => ?_)
    refine lv_iload hx hb dL_acts_403 (lv_at hl 0 rfl) ?_
    refine lv_bipush (v := (-77)) hx hb dL_acts_405 (by decide) ?_
    refine lv_icmp_eq (tgt := 428) hx hb dL_acts_407 (by decide) (fun h => absurd h (fun z => by rw [z] at g1; exact absurd g1 (by decide))) (fun b5 => ?_)
    refine lv_iload hx hb dL_acts_410 (lv_at hl 0 rfl) ?_
    refine lv_if_le (tgt := 432) hx hb dL_acts_412 (by decide) (fun h => absurd h (Int32.not_le.mpr g1)) (fun b6 => ?_)
    refine lv_aload_n hx hb dL_acts_415 rfl (lv_at hl 5 rfl) ?_
    refine lv_iload hx hb dL_acts_416 (lv_at hl 3 rfl) ?_
    refine lv_iload hx hb dL_acts_418 (lv_at hl 2 rfl) ?_
    refine zlW (As := [.ref N, .int (nI a1), .int (nI j1)]) (rest := []) X hml C0 hA0 hG (ctL_jump l hl0 D cy rf N (zxb N 0 0) (zxa N) σ_9 (zxd N) δ_9 zu_J (nI a1) (nI j1) hP_9.zv hP_9.dc (hP_9.df (by omega))) zmL_jump (by decide) m_898 ⟨(Nat.le_of_ble_eq_true rfl), (Nat.le_of_ble_eq_true rfl)⟩ ⟨by show cells + 1 + 1 ≤ 40; omega, by show slots + 6 + 6 ≤ 240; omega⟩ rfl hl.1 rfl (Nat.le_of_ble_eq_true rfl) dL_acts_420 hS (fun q h => Or.inl h) (fun H locs hG hsz hfr hS => ?_)
    replace hDp := va_at.kept hDp (hfr dp (va_at.lt hDp) (fun z => by have := zu_ra z; omega))
    obtain ⟨hP_10, hF⟩ := pf_11b hP_9 (by omega) g3 (nI j1) g4
    generalize zans (k_ref σ_9 (nI 11) (nI a1) (nI j1) 0 0) (k_pr σ_9 (nI 11) (nI a1) (nI j1) 0 0) = t_10 at hF ⊢
    generalize k_nS σ_9 11 (nI a1) (nI j1) 0 0 = σ_10 at hG hP_10
    generalize k_nD σ_9 δ_9 11 (nI a1) (nI j1) 0 0 = δ_10 at hG hP_10
    refine lv_bipush (v := (-76)) hx hb dL_acts_423 (by decide) ?_
    refine lv_icmp_ne (tgt := 432) hx hb dL_acts_425 (by decide) (fun h => absurd h (not_not_intro hF)) (fun b7 => ?_)
    refine lv_iconst (v := 1) hx hb dL_acts_428 (by decide) ?_
    refine lv_goto (tgt := 433) hx hb dL_acts_429 (by decide) ?_
    exact zo_z (b := true) hx hb hr hlocks rfl ⟨σ_10, δ_10, μ_9, τ_9, V, hG, hDp, hP_10.up (by omega) (by omega), RD_up g2 (by decide)⟩ hS (by omega) (by omega) dL_acts_433
set_option maxRecDepth 100000 in
set_option maxHeartbeats 4000000 in
theorem zac_434 (X : zX p m c s args RL cL_acts) (hml : c.maxLocals = 11) (hr : meth.sig.returnType = some .boolean) (hlocks : meth.locks = false) (hl0 : l.stackTraces = false) (hL31 : L < 2 ^ 31) (C0 : zCx s D cy rf N b L xs ak av) (hdp : N + 339 ≤ dp) (hc : c1 < 8) (ha : a1 < 4) (hj : j1 < 6) (hK : K + 8 ≤ 512) (hbb : 36 * bb + 36 ≤ 9999) (hP : zP 4 8 3 K bb V σ δ μ τ) (hG : zSA D cy N (zxb N 0 0) (zxa N) σ (zxd N) δ H) (hDp : zDp D cy dp V H) (hS : va_S (zRD N dp) s.heap H locs) (hl : lv_has ls 11 [(7, .int (zA μ 38 0 c1)), (6, .int (nI j1)), (5, .int (nI a1)), (4, .int (nI c1)), (0, .ref N), (1, .ref b), (2, .int (nI k1)), (3, .ref dp)]) (hcl : cells ≤ 4) (hsl : slots ≤ 24) : W p l e (zrx 10 40 240) s m args below meth c H locs cells slots (MQ below (zqM (some (.int (bI true))) (zAE D cy N dp K bb μ) (zRD N dp)) args s 40 240 (zRD N dp)) (F0 m 434 ls []) := by
  obtain ⟨hx, hb, -, -⟩ := id X
  have hA0 : ∀ q, zRD N dp q → zLA N q := fun q h => zRD_N hdp h
  refine lv_aload_n hx hb dL_acts_434 rfl (lv_at hl 4 rfl) ?_
  refine lv_iload hx hb dL_acts_435 (lv_at hl 2 rfl) ?_
  refine zlW (As := [.ref N, .int (nI a1)]) (rest := []) X hml C0 hA0 hG (ctL_leave l hl0 D cy rf N (zxb N 0 0) (zxa N) σ (zxd N) δ zu_J (nI a1) hP.zv hP.dc (hP.df (by omega))) zmL_leave (by decide) m_905 ⟨(Nat.le_of_ble_eq_true rfl), (Nat.le_of_ble_eq_true rfl)⟩ ⟨by show cells + 1 ≤ 40; omega, by show slots + 6 ≤ 240; omega⟩ rfl hl.1 rfl (Nat.le_of_ble_eq_true rfl) dL_acts_437 hS (fun q h => Or.inl h) (fun H locs hG hsz hfr hS => ?_)
  replace hDp := va_at.kept hDp (hfr dp (va_at.lt hDp) (fun z => by have := zu_ra z; omega))
  obtain ⟨μ_11, τ_11, hP_11, hF⟩ := pf_10 hP (by omega) (l := a1) (by omega)
  generalize zans (k_ref σ (nI 10) (nI a1) 0 0 0) (k_pr σ (nI 10) (nI a1) 0 0 0) = t_11 at hF ⊢
  generalize k_nS σ 10 (nI a1) 0 0 0 = σ_11 at hG hP_11
  generalize k_nD σ δ 10 (nI a1) 0 0 0 = δ_11 at hG hP_11
  obtain ⟨g2, g1⟩ := hF
  refine lv_bipush (v := (-77)) hx hb dL_acts_440 (by decide) ?_
  refine lv_icmp_lt (tgt := 449) hx hb dL_acts_442 (by decide) (fun h => absurd h g1) (fun b1 => ?_)
  refine lv_iconst (v := 1) hx hb dL_acts_445 (by decide) ?_
  refine lv_goto (tgt := 450) hx hb dL_acts_446 (by decide) ?_
  exact zo_z (b := true) hx hb hr hlocks rfl ⟨σ_11, δ_11, μ_11, τ_11, V, hG, hDp, hP_11.up (by omega) (by omega), RD_up g2 (by decide)⟩ hS (by omega) (by omega) dL_acts_450
set_option maxRecDepth 100000 in
set_option maxHeartbeats 4000000 in
theorem zac_451 (X : zX p m c s args RL cL_acts) (hml : c.maxLocals = 11) (hr : meth.sig.returnType = some .boolean) (hlocks : meth.locks = false) (hl0 : l.stackTraces = false) (hL31 : L < 2 ^ 31) (C0 : zCx s D cy rf N b L xs ak av) (hdp : N + 339 ≤ dp) (hc : c1 < 8) (ha : a1 < 4) (hj : j1 < 6) (hK : K + 8 ≤ 512) (hbb : 36 * bb + 36 ≤ 9999) (hP : zP 4 8 3 K bb V σ δ μ τ) (hG : zSA D cy N (zxb N 0 0) (zxa N) σ (zxd N) δ H) (hDp : zDp D cy dp V H) (hS : va_S (zRD N dp) s.heap H locs) (hl : lv_has ls 11 [(7, .int (zA μ 38 0 c1)), (6, .int (nI j1)), (5, .int (nI a1)), (4, .int (nI c1)), (0, .ref N), (1, .ref b), (2, .int (nI k1)), (3, .ref dp)]) (hcl : cells ≤ 4) (hsl : slots ≤ 24) : W p l e (zrx 10 40 240) s m args below meth c H locs cells slots (MQ below (zqM (some (.int (bI true))) (zAE D cy N dp K bb μ) (zRD N dp)) args s 40 240 (zRD N dp)) (F0 m 451 ls []) := by
  obtain ⟨hx, hb, -, -⟩ := id X
  have hA0 : ∀ q, zRD N dp q → zLA N q := fun q h => zRD_N hdp h
  refine lv_aload_n hx hb dL_acts_451 rfl (lv_at hl 4 rfl) ?_
  refine lv_iload hx hb dL_acts_452 (lv_at hl 3 rfl) ?_
  refine lv_iload hx hb dL_acts_454 (lv_at hl 1 rfl) ?_
  refine lv_if_le (tgt := 463) hx hb dL_acts_456 (by decide) (fun b1 => ?_) (fun b1 => ?_)
  · refine lv_iconst (v := 0) hx hb dL_acts_463 (by decide) ?_
    refine zlW (As := [.ref N, .int (nI c1), .int (bI false)]) (rest := []) X hml C0 hA0 hG (ctL_drop l hl0 D cy rf N (zxb N 0 0) (zxa N) σ (zxd N) δ zu_J (nI c1) false hP.zv hP.dc (hP.df (by omega))) zmL_drop (by decide) m_912 ⟨(Nat.le_of_ble_eq_true rfl), (Nat.le_of_ble_eq_true rfl)⟩ ⟨by show cells + 1 ≤ 40; omega, by show slots + 6 ≤ 240; omega⟩ rfl hl.1 rfl (Nat.le_of_ble_eq_true rfl) dL_acts_464 hS (fun q h => Or.inl h) (fun H locs hG hsz hfr hS => ?_)
    replace hDp := va_at.kept hDp (hfr dp (va_at.lt hDp) (fun z => by have := zu_ra z; omega))
    obtain ⟨μ_12, τ_12, hP_12, g2, hF⟩ := pf_17 hP (by omega) hc false
    generalize zans (k_ref σ (nI 17) (nI c1) (bI false) 0 0) (k_pr σ (nI 17) (nI c1) (bI false) 0 0) = t_12 at hF ⊢
    generalize k_nS σ 17 (nI c1) (bI false) 0 0 = σ_12 at hG hP_12
    generalize k_nD σ δ 17 (nI c1) (bI false) 0 0 = δ_12 at hG hP_12
    rcases hF with ⟨g0, g3, q, hq, g4, g5⟩ | ⟨g0, g1⟩
    · subst g4
      refine lv_istore (lv' := [(8, .int (nI q)), (7, .int (zA μ 38 0 c1)), (6, .int (nI j1)), (5, .int (nI a1)), (4, .int (nI c1)), (0, .ref N), (1, .ref b), (2, .int (nI k1)), (3, .ref dp)]) hx hb dL_acts_467 hl (by decide) rfl (fun ls hl => ?_)
      refine lv_iload hx hb dL_acts_469 (lv_at hl 0 rfl) ?_
      refine lv_if_ge (tgt := 489) hx hb dL_acts_471 (by decide) (fun b2 => ?_) (fun h => absurd (nI_pos' (by omega)) h)
      refine lv_iload hx hb dL_acts_489 (lv_at hl 1 rfl) ?_
      refine lv_bipush (v := 107) hx hb dL_acts_491 (by decide) ?_
      refine lv_icmp_ne (tgt := 534) hx hb dL_acts_493 (by decide) (fun h => absurd h (not_not_intro g0)) (fun b3 => ?_)
      refine lv_aload_n hx hb dL_acts_496 rfl (lv_at hl 5 rfl) ?_
      refine lv_iload hx hb dL_acts_497 (lv_at hl 4 rfl) ?_
      refine zlW (As := [.ref N, .int (nI c1)]) (rest := []) X hml C0 hA0 hG (ctL_stateOf l hl0 D cy rf N (zxb N 0 0) (zxa N) σ_12 (zxd N) δ_12 (nI c1) hP_12.zv (ra_ch hP_12 _)) zmL_stateOf (by decide) m_846 ⟨(Nat.le_of_ble_eq_true rfl), (Nat.le_of_ble_eq_true rfl)⟩ ⟨by show cells + 1 + 1 ≤ 40; omega, by show slots + 6 + 6 ≤ 240; omega⟩ rfl hl.1 rfl (Nat.le_of_ble_eq_true rfl) dL_acts_499 hS (fun q h => h.elim) (fun H locs hG hsz hfr hS => ?_)
      replace hDp := va_at.kept hDp (hfr dp (va_at.lt hDp) (fun z => z))
      rw [ra_st hP_12 hc]
      refine lv_bipush (v := 111) hx hb dL_acts_502 (by decide) ?_
      refine lv_icmp_ne (tgt := 534) hx hb dL_acts_504 (by decide) (fun h => absurd h (not_not_intro g3)) (fun b4 => ?_)
      refine lv_iload hx hb dL_acts_507 (lv_at hl 0 rfl) ?_
      refine lv_if_le (tgt := 516) hx hb dL_acts_509 (by decide) (fun b5 => ?_) (fun h => absurd (by rw [show q = 0 from Nat.eq_zero_of_not_pos (fun z => absurd (g5.mp z) (by decide))]; decide) h)
      refine lv_iconst (v := 0) hx hb dL_acts_516 (by decide) ?_
      refine lv_iload hx hb dL_acts_517 (lv_at hl 2 rfl) ?_
      refine lv_if_le (tgt := 526) hx hb dL_acts_519 (by decide) (fun b6 => ?_) (fun h => absurd b1 h)
      refine lv_iconst (v := 0) hx hb dL_acts_526 (by decide) ?_
      refine lv_icmp_ne (tgt := 534) hx hb dL_acts_527 (by decide) (fun h => absurd h (by decide)) (fun _ => ?_)
      refine lv_iconst (v := 1) hx hb dL_acts_530 (by decide) ?_
      refine lv_goto (tgt := 535) hx hb dL_acts_531 (by decide) ?_
      exact zo_z (b := true) hx hb hr hlocks rfl ⟨σ_12, δ_12, μ_12, τ_12, V, hG, hDp, hP_12.up (by omega) (by omega), RD_up g2 (by decide)⟩ hS (by omega) (by omega) dL_acts_535
    · refine lv_istore (lv' := [(8, .int t_12), (7, .int (zA μ 38 0 c1)), (6, .int (nI j1)), (5, .int (nI a1)), (4, .int (nI c1)), (0, .ref N), (1, .ref b), (2, .int (nI k1)), (3, .ref dp)]) hx hb dL_acts_467 hl (by decide) rfl (fun ls hl => ?_)
      refine lv_iload hx hb dL_acts_469 (lv_at hl 0 rfl) ?_
      refine lv_if_ge (tgt := 489) hx hb dL_acts_471 (by decide) (fun h => absurd h (Int32.not_le.mpr g1)) (fun b8 => ?_)
      refine lv_iload hx hb dL_acts_474 (lv_at hl 1 rfl) ?_
      refine lv_bipush (v := 107) hx hb dL_acts_476 (by decide) ?_
      refine lv_icmp_eq (tgt := 485) hx hb dL_acts_478 (by decide) (fun h => absurd h g0) (fun b9 => ?_)
      refine lv_iconst (v := 1) hx hb dL_acts_481 (by decide) ?_
      refine lv_goto (tgt := 535) hx hb dL_acts_482 (by decide) ?_
      exact zo_z (b := true) hx hb hr hlocks rfl ⟨σ_12, δ_12, μ_12, τ_12, V, hG, hDp, hP_12.up (by omega) (by omega), RD_up g2 (by decide)⟩ hS (by omega) (by omega) dL_acts_535
  · refine lv_iconst (v := 1) hx hb dL_acts_459 (by decide) ?_
    refine lv_goto (tgt := 464) hx hb dL_acts_460 (by decide) ?_
    refine zlW (As := [.ref N, .int (nI c1), .int (bI true)]) (rest := []) X hml C0 hA0 hG (ctL_drop l hl0 D cy rf N (zxb N 0 0) (zxa N) σ (zxd N) δ zu_J (nI c1) true hP.zv hP.dc (hP.df (by omega))) zmL_drop (by decide) m_912 ⟨(Nat.le_of_ble_eq_true rfl), (Nat.le_of_ble_eq_true rfl)⟩ ⟨by show cells + 1 ≤ 40; omega, by show slots + 6 ≤ 240; omega⟩ rfl hl.1 rfl (Nat.le_of_ble_eq_true rfl) dL_acts_464 hS (fun q h => Or.inl h) (fun H locs hG hsz hfr hS => ?_)
    replace hDp := va_at.kept hDp (hfr dp (va_at.lt hDp) (fun z => by have := zu_ra z; omega))
    obtain ⟨μ_13, τ_13, hP_13, g2, hF⟩ := pf_17 hP (by omega) hc true
    generalize zans (k_ref σ (nI 17) (nI c1) (bI true) 0 0) (k_pr σ (nI 17) (nI c1) (bI true) 0 0) = t_13 at hF ⊢
    generalize k_nS σ 17 (nI c1) (bI true) 0 0 = σ_13 at hG hP_13
    generalize k_nD σ δ 17 (nI c1) (bI true) 0 0 = δ_13 at hG hP_13
    rcases hF with ⟨g0, g3, q, hq, g4, g5⟩ | ⟨g0, g1⟩
    · subst g4
      refine lv_istore (lv' := [(8, .int (nI q)), (7, .int (zA μ 38 0 c1)), (6, .int (nI j1)), (5, .int (nI a1)), (4, .int (nI c1)), (0, .ref N), (1, .ref b), (2, .int (nI k1)), (3, .ref dp)]) hx hb dL_acts_467 hl (by decide) rfl (fun ls hl => ?_)
      refine lv_iload hx hb dL_acts_469 (lv_at hl 0 rfl) ?_
      refine lv_if_ge (tgt := 489) hx hb dL_acts_471 (by decide) (fun b10 => ?_) (fun h => absurd (nI_pos' (by omega)) h)
      refine lv_iload hx hb dL_acts_489 (lv_at hl 1 rfl) ?_
      refine lv_bipush (v := 107) hx hb dL_acts_491 (by decide) ?_
      refine lv_icmp_ne (tgt := 534) hx hb dL_acts_493 (by decide) (fun h => absurd h (not_not_intro g0)) (fun b11 => ?_)
      refine lv_aload_n hx hb dL_acts_496 rfl (lv_at hl 5 rfl) ?_
      refine lv_iload hx hb dL_acts_497 (lv_at hl 4 rfl) ?_
      refine zlW (As := [.ref N, .int (nI c1)]) (rest := []) X hml C0 hA0 hG (ctL_stateOf l hl0 D cy rf N (zxb N 0 0) (zxa N) σ_13 (zxd N) δ_13 (nI c1) hP_13.zv (ra_ch hP_13 _)) zmL_stateOf (by decide) m_846 ⟨(Nat.le_of_ble_eq_true rfl), (Nat.le_of_ble_eq_true rfl)⟩ ⟨by show cells + 1 + 1 ≤ 40; omega, by show slots + 6 + 6 ≤ 240; omega⟩ rfl hl.1 rfl (Nat.le_of_ble_eq_true rfl) dL_acts_499 hS (fun q h => h.elim) (fun H locs hG hsz hfr hS => ?_)
      replace hDp := va_at.kept hDp (hfr dp (va_at.lt hDp) (fun z => z))
      rw [ra_st hP_13 hc]
      refine lv_bipush (v := 111) hx hb dL_acts_502 (by decide) ?_
      refine lv_icmp_ne (tgt := 534) hx hb dL_acts_504 (by decide) (fun h => absurd h (not_not_intro g3)) (fun b12 => ?_)
      refine lv_iload hx hb dL_acts_507 (lv_at hl 0 rfl) ?_
      refine lv_if_le (tgt := 516) hx hb dL_acts_509 (by decide) (fun h => absurd h (Int32.not_le.mpr (nI_gt0 (g5.mpr rfl) (by omega)))) (fun b13 => ?_)
      refine lv_iconst (v := 1) hx hb dL_acts_512 (by decide) ?_
      refine lv_goto (tgt := 517) hx hb dL_acts_513 (by decide) ?_
      refine lv_iload hx hb dL_acts_517 (lv_at hl 2 rfl) ?_
      refine lv_if_le (tgt := 526) hx hb dL_acts_519 (by decide) (fun h => absurd h b1) (fun b14 => ?_)
      refine lv_iconst (v := 1) hx hb dL_acts_522 (by decide) ?_
      refine lv_goto (tgt := 527) hx hb dL_acts_523 (by decide) ?_
      refine lv_icmp_ne (tgt := 534) hx hb dL_acts_527 (by decide) (fun h => absurd h (by decide)) (fun _ => ?_)
      refine lv_iconst (v := 1) hx hb dL_acts_530 (by decide) ?_
      refine lv_goto (tgt := 535) hx hb dL_acts_531 (by decide) ?_
      exact zo_z (b := true) hx hb hr hlocks rfl ⟨σ_13, δ_13, μ_13, τ_13, V, hG, hDp, hP_13.up (by omega) (by omega), RD_up g2 (by decide)⟩ hS (by omega) (by omega) dL_acts_535
    · refine lv_istore (lv' := [(8, .int t_13), (7, .int (zA μ 38 0 c1)), (6, .int (nI j1)), (5, .int (nI a1)), (4, .int (nI c1)), (0, .ref N), (1, .ref b), (2, .int (nI k1)), (3, .ref dp)]) hx hb dL_acts_467 hl (by decide) rfl (fun ls hl => ?_)
      refine lv_iload hx hb dL_acts_469 (lv_at hl 0 rfl) ?_
      refine lv_if_ge (tgt := 489) hx hb dL_acts_471 (by decide) (fun h => absurd h (Int32.not_le.mpr g1)) (fun b16 => ?_)
      refine lv_iload hx hb dL_acts_474 (lv_at hl 1 rfl) ?_
      refine lv_bipush (v := 107) hx hb dL_acts_476 (by decide) ?_
      refine lv_icmp_eq (tgt := 485) hx hb dL_acts_478 (by decide) (fun h => absurd h g0) (fun b17 => ?_)
      refine lv_iconst (v := 1) hx hb dL_acts_481 (by decide) ?_
      refine lv_goto (tgt := 535) hx hb dL_acts_482 (by decide) ?_
      exact zo_z (b := true) hx hb hr hlocks rfl ⟨σ_13, δ_13, μ_13, τ_13, V, hG, hDp, hP_13.up (by omega) (by omega), RD_up g2 (by decide)⟩ hS (by omega) (by omega) dL_acts_535
set_option maxRecDepth 100000 in
set_option maxHeartbeats 4000000 in
theorem zac_536 (X : zX p m c s args RL cL_acts) (hml : c.maxLocals = 11) (hr : meth.sig.returnType = some .boolean) (hlocks : meth.locks = false) (hl0 : l.stackTraces = false) (hL31 : L < 2 ^ 31) (C0 : zCx s D cy rf N b L xs ak av) (hdp : N + 339 ≤ dp) (hc : c1 < 8) (ha : a1 < 4) (hj : j1 < 6) (hK : K + 8 ≤ 512) (hbb : 36 * bb + 36 ≤ 9999) (hP : zP 4 8 3 K bb V σ δ μ τ) (hG : zSA D cy N (zxb N 0 0) (zxa N) σ (zxd N) δ H) (hDp : zDp D cy dp V H) (hS : va_S (zRD N dp) s.heap H locs) (hl : lv_has ls 11 [(7, .int (zA μ 38 0 c1)), (6, .int (nI j1)), (5, .int (nI a1)), (4, .int (nI c1)), (0, .ref N), (1, .ref b), (2, .int (nI k1)), (3, .ref dp)]) (hcl : cells ≤ 4) (hsl : slots ≤ 24) : W p l e (zrx 10 40 240) s m args below meth c H locs cells slots (MQ below (zqM (some (.int (bI true))) (zAE D cy N dp K bb μ) (zRD N dp)) args s 40 240 (zRD N dp)) (F0 m 536 ls []) := by
  obtain ⟨hx, hb, -, -⟩ := id X
  have hA0 : ∀ q, zRD N dp q → zLA N q := fun q h => zRD_N hdp h
  refine lv_aload_n hx hb dL_acts_536 rfl (lv_at hl 4 rfl) ?_
  refine lv_iload hx hb dL_acts_537 (lv_at hl 3 rfl) ?_
  refine lv_iload hx hb dL_acts_539 (lv_at hl 2 rfl) ?_
  refine zlW (As := [.ref N, .int (nI c1), .int (nI a1)]) (rest := []) X hml C0 hA0 hG (ctL_repair l hl0 D cy rf N (zxb N 0 0) (zxa N) σ (zxd N) δ zu_J (nI c1) (nI a1) hP.zv hP.dc (hP.df (by omega))) zmL_repair (by decide) m_919 ⟨(Nat.le_of_ble_eq_true rfl), (Nat.le_of_ble_eq_true rfl)⟩ ⟨by show cells + 1 ≤ 40; omega, by show slots + 6 ≤ 240; omega⟩ rfl hl.1 rfl (Nat.le_of_ble_eq_true rfl) dL_acts_541 hS (fun q h => Or.inl h) (fun H locs hG hsz hfr hS => ?_)
  replace hDp := va_at.kept hDp (hfr dp (va_at.lt hDp) (fun z => by have := zu_ra z; omega))
  obtain ⟨μ_14, τ_14, hP_14, g2, g3⟩ := pf_16 hP (by omega) (g := a1) hc
  generalize zans (k_ref σ (nI 16) (nI c1) (nI a1) 0 0) (k_pr σ (nI 16) (nI c1) (nI a1) 0 0) = t_14
  generalize k_nS σ 16 (nI c1) (nI a1) 0 0 = σ_14 at hG hP_14
  generalize k_nD σ δ 16 (nI c1) (nI a1) 0 0 = δ_14 at hG hP_14
  refine lv_if_gt (tgt := 565) hx hb dL_acts_544 (by decide) (fun b1 => ?_) (fun b1 => ?_)
  · refine lv_iconst (v := 1) hx hb dL_acts_565 (by decide) ?_
    refine lv_goto (tgt := 570) hx hb dL_acts_566 (by decide) ?_
    exact zo_z (b := true) hx hb hr hlocks rfl ⟨σ_14, δ_14, μ_14, τ_14, V, hG, hDp, hP_14.up (by omega) (by omega), RD_up g2 (by decide)⟩ hS (by omega) (by omega) dL_acts_570
  · refine lv_iload hx hb dL_acts_547 (lv_at hl 0 rfl) ?_
    refine lv_bipush (v := 111) hx hb dL_acts_549 (by decide) ?_
    refine lv_icmp_ne (tgt := 565) hx hb dL_acts_551 (by decide) (fun b2 => ?_) (fun b2 => ?_)
    · refine lv_iconst (v := 1) hx hb dL_acts_565 (by decide) ?_
      refine lv_goto (tgt := 570) hx hb dL_acts_566 (by decide) ?_
      exact zo_z (b := true) hx hb hr hlocks rfl ⟨σ_14, δ_14, μ_14, τ_14, V, hG, hDp, hP_14.up (by omega) (by omega), RD_up g2 (by decide)⟩ hS (by omega) (by omega) dL_acts_570
    · refine lv_aload_n hx hb dL_acts_554 rfl (lv_at hl 4 rfl) ?_
      refine lv_iload hx hb dL_acts_555 (lv_at hl 3 rfl) ?_
      refine zlW (As := [.ref N, .int (nI c1)]) (rest := []) X hml C0 hA0 hG (ctL_stateOf l hl0 D cy rf N (zxb N 0 0) (zxa N) σ_14 (zxd N) δ_14 (nI c1) hP_14.zv (ra_ch hP_14 _)) zmL_stateOf (by decide) m_846 ⟨(Nat.le_of_ble_eq_true rfl), (Nat.le_of_ble_eq_true rfl)⟩ ⟨by show cells + 1 + 1 ≤ 40; omega, by show slots + 6 + 6 ≤ 240; omega⟩ rfl hl.1 rfl (Nat.le_of_ble_eq_true rfl) dL_acts_557 hS (fun q h => h.elim) (fun H locs hG hsz hfr hS => ?_)
      replace hDp := va_at.kept hDp (hfr dp (va_at.lt hDp) (fun z => z))
      rw [ra_st hP_14 hc]
      refine lv_bipush (v := 111) hx hb dL_acts_560 (by decide) ?_
      refine lv_icmp_ne (tgt := 569) hx hb dL_acts_562 (by decide) (fun h => absurd h (not_not_intro (g3.trans b2))) (fun b3 => ?_)
      refine lv_iconst (v := 1) hx hb dL_acts_565 (by decide) ?_
      refine lv_goto (tgt := 570) hx hb dL_acts_566 (by decide) ?_
      exact zo_z (b := true) hx hb hr hlocks rfl ⟨σ_14, δ_14, μ_14, τ_14, V, hG, hDp, hP_14.up (by omega) (by omega), RD_up g2 (by decide)⟩ hS (by omega) (by omega) dL_acts_570
set_option maxRecDepth 100000 in
set_option maxHeartbeats 4000000 in
theorem zac_571 (X : zX p m c s args RL cL_acts) (hml : c.maxLocals = 11) (hr : meth.sig.returnType = some .boolean) (hlocks : meth.locks = false) (hl0 : l.stackTraces = false) (hL31 : L < 2 ^ 31) (C0 : zCx s D cy rf N b L xs ak av) (hdp : N + 339 ≤ dp) (hc : c1 < 8) (ha : a1 < 4) (hj : j1 < 6) (hK : K + 8 ≤ 512) (hbb : 36 * bb + 36 ≤ 9999) (hP : zP 4 8 3 K bb V σ δ μ τ) (hG : zSA D cy N (zxb N 0 0) (zxa N) σ (zxd N) δ H) (hDp : zDp D cy dp V H) (hS : va_S (zRD N dp) s.heap H locs) (hl : lv_has ls 11 [(7, .int (zA μ 38 0 c1)), (6, .int (nI j1)), (5, .int (nI a1)), (4, .int (nI c1)), (0, .ref N), (1, .ref b), (2, .int (nI k1)), (3, .ref dp)]) (hcl : cells ≤ 4) (hsl : slots ≤ 24) : W p l e (zrx 10 40 240) s m args below meth c H locs cells slots (MQ below (zqM (some (.int (bI true))) (zAE D cy N dp K bb μ) (zRD N dp)) args s 40 240 (zRD N dp)) (F0 m 571 ls []) := by
  obtain ⟨hx, hb, -, -⟩ := id X
  have hA0 : ∀ q, zRD N dp q → zLA N q := fun q h => zRD_N hdp h
  refine lv_aload_n hx hb dL_acts_571 rfl (lv_at hl 4 rfl) ?_
  refine lv_iload hx hb dL_acts_572 (lv_at hl 3 rfl) ?_
  refine zlW (As := [.ref N, .int (nI c1)]) (rest := []) X hml C0 hA0 hG (ctL_find l hl0 D cy rf N (zxb N 0 0) (zxa N) σ (zxd N) δ zu_J (nI c1) hP.zv hP.dc (hP.df (by omega))) zmL_find (by decide) m_926 ⟨(Nat.le_of_ble_eq_true rfl), (Nat.le_of_ble_eq_true rfl)⟩ ⟨by show cells + 1 ≤ 40; omega, by show slots + 6 ≤ 240; omega⟩ rfl hl.1 rfl (Nat.le_of_ble_eq_true rfl) dL_acts_574 hS (fun q h => Or.inl h) (fun H locs hG hsz hfr hS => ?_)
  replace hDp := va_at.kept hDp (hfr dp (va_at.lt hDp) (fun z => by have := zu_ra z; omega))
  obtain ⟨μ_15, τ_15, hP_15, g2, hF⟩ := pf_12 hP (by omega) hc
  generalize zans (k_ref σ (nI 12) (nI c1) 0 0 0) (k_pr σ (nI 12) (nI c1) 0 0 0) = t_15 at hF ⊢
  generalize k_nS σ 12 (nI c1) 0 0 0 = σ_15 at hG hP_15
  generalize k_nD σ δ 12 (nI c1) 0 0 0 = δ_15 at hG hP_15
  rcases hF with g1 | ⟨q, g1, g3, g4, g5, g6⟩
  · refine lv_istore (lv' := [(8, .int t_15), (7, .int (zA μ 38 0 c1)), (6, .int (nI j1)), (5, .int (nI a1)), (4, .int (nI c1)), (0, .ref N), (1, .ref b), (2, .int (nI k1)), (3, .ref dp)]) hx hb dL_acts_577 hl (by decide) rfl (fun ls hl => ?_)
    refine lv_iload hx hb dL_acts_579 (lv_at hl 0 rfl) ?_
    refine lv_bipush (v := (-79)) hx hb dL_acts_581 (by decide) ?_
    refine lv_icmp_eq (tgt := 606) hx hb dL_acts_583 (by decide) (fun b1 => ?_) (fun h => absurd g1 h)
    refine lv_iconst (v := 1) hx hb dL_acts_606 (by decide) ?_
    refine lv_goto (tgt := 611) hx hb dL_acts_607 (by decide) ?_
    exact zo_z (b := true) hx hb hr hlocks rfl ⟨σ_15, δ_15, μ_15, τ_15, V, hG, hDp, hP_15.up (by omega) (by omega), RD_up g2 (by decide)⟩ hS (by omega) (by omega) dL_acts_611
  · subst g1
    refine lv_istore (lv' := [(8, .int (nI q)), (7, .int (zA μ 38 0 c1)), (6, .int (nI j1)), (5, .int (nI a1)), (4, .int (nI c1)), (0, .ref N), (1, .ref b), (2, .int (nI k1)), (3, .ref dp)]) hx hb dL_acts_577 hl (by decide) rfl (fun ls hl => ?_)
    refine lv_iload hx hb dL_acts_579 (lv_at hl 0 rfl) ?_
    refine lv_bipush (v := (-79)) hx hb dL_acts_581 (by decide) ?_
    refine lv_icmp_eq (tgt := 606) hx hb dL_acts_583 (by decide) (fun h => absurd h (fun z => absurd (show nI q < 0 by rw [z]; decide) (nI_pos (by omega)))) (fun b2 => ?_)
    refine lv_aload_n hx hb dL_acts_586 rfl (lv_at hl 5 rfl) ?_
    refine lv_iload hx hb dL_acts_587 (lv_at hl 4 rfl) ?_
    refine zlW (As := [.ref N, .int (nI c1)]) (rest := []) X hml C0 hA0 hG (ctL_isGrounded l hl0 D cy rf N (zxb N 0 0) (zxa N) σ_15 (zxd N) δ_15 (nI c1) hP_15.zv) zmL_isGrounded (by decide) m_882 ⟨(Nat.le_of_ble_eq_true rfl), (Nat.le_of_ble_eq_true rfl)⟩ ⟨by show cells + 1 + 1 ≤ 40; omega, by show slots + 6 + 6 ≤ 240; omega⟩ rfl hl.1 rfl (Nat.le_of_ble_eq_true rfl) dL_acts_589 hS (fun q h => h.elim) (fun H locs hG hsz hfr hS => ?_)
    replace hDp := va_at.kept hDp (hfr dp (va_at.lt hDp) (fun z => z))
    rw [ra_gr hP_15 hc]
    rw [g5]
    refine lv_iconst (v := 1) hx hb dL_acts_592 (by decide) ?_
    refine lv_icmp_ne (tgt := 610) hx hb dL_acts_593 (by decide) (fun h => absurd h (not_not_intro rfl)) (fun b3 => ?_)
    refine lv_aload_n hx hb dL_acts_596 rfl (lv_at hl 5 rfl) ?_
    refine lv_iload hx hb dL_acts_597 (lv_at hl 0 rfl) ?_
    refine zlW (As := [.ref N, .int (nI q)]) (rest := []) X hml C0 hA0 hG (ctL_grounds l hl0 D cy rf N (zxb N 0 0) (zxa N) σ_15 (zxd N) δ_15 (nI q) hP_15.zv) zmL_grounds (by decide) m_933 ⟨(Nat.le_of_ble_eq_true rfl), (Nat.le_of_ble_eq_true rfl)⟩ ⟨by show cells + 1 + 1 + 1 ≤ 40; omega, by show slots + 6 + 6 + 6 ≤ 240; omega⟩ rfl hl.1 rfl (Nat.le_of_ble_eq_true rfl) dL_acts_599 hS (fun q h => h.elim) (fun H locs hG hsz hfr hS => ?_)
    replace hDp := va_at.kept hDp (hfr dp (va_at.lt hDp) (fun z => z))
    rw [ra_gf hP_15 (show q < 1000 by omega)]
    rw [show gnd μ_15 q = 1 from by unfold gnd; rw [if_pos g3, g6]; rfl]
    refine lv_iconst (v := 1) hx hb dL_acts_602 (by decide) ?_
    refine lv_icmp_ne (tgt := 610) hx hb dL_acts_603 (by decide) (fun h => absurd h (by decide)) (fun _ => ?_)
    refine lv_iconst (v := 1) hx hb dL_acts_606 (by decide) ?_
    refine lv_goto (tgt := 611) hx hb dL_acts_607 (by decide) ?_
    exact zo_z (b := true) hx hb hr hlocks rfl ⟨σ_15, δ_15, μ_15, τ_15, V, hG, hDp, hP_15.up (by omega) (by omega), RD_up g2 (by decide)⟩ hS (by omega) (by omega) dL_acts_611
set_option maxRecDepth 100000 in
set_option maxHeartbeats 4000000 in
theorem zac_612 (X : zX p m c s args RL cL_acts) (hml : c.maxLocals = 11) (hr : meth.sig.returnType = some .boolean) (hlocks : meth.locks = false) (hl0 : l.stackTraces = false) (hL31 : L < 2 ^ 31) (C0 : zCx s D cy rf N b L xs ak av) (hdp : N + 339 ≤ dp) (hc : c1 < 8) (ha : a1 < 4) (hj : j1 < 6) (hK : K + 8 ≤ 512) (hbb : 36 * bb + 36 ≤ 9999) (hP : zP 4 8 3 K bb V σ δ μ τ) (hG : zSA D cy N (zxb N 0 0) (zxa N) σ (zxd N) δ H) (hDp : zDp D cy dp V H) (hS : va_S (zRD N dp) s.heap H locs) (hl : lv_has ls 11 [(7, .int (zA μ 38 0 c1)), (6, .int (nI j1)), (5, .int (nI a1)), (4, .int (nI c1)), (0, .ref N), (1, .ref b), (2, .int (nI k1)), (3, .ref dp)]) (hcl : cells ≤ 4) (hsl : slots ≤ 24) : W p l e (zrx 10 40 240) s m args below meth c H locs cells slots (MQ below (zqM (some (.int (bI true))) (zAE D cy N dp K bb μ) (zRD N dp)) args s 40 240 (zRD N dp)) (F0 m 612 ls []) := by
  obtain ⟨hx, hb, -, -⟩ := id X
  have hA0 : ∀ q, zRD N dp q → zLA N q := fun q h => zRD_N hdp h
  refine lv_aload_n hx hb dL_acts_612 rfl (lv_at hl 4 rfl) ?_
  refine lv_iload hx hb dL_acts_613 (lv_at hl 3 rfl) ?_
  refine zlW (As := [.ref N, .int (nI c1)]) (rest := []) X hml C0 hA0 hG (ctL_grounds l hl0 D cy rf N (zxb N 0 0) (zxa N) σ (zxd N) δ (nI c1) hP.zv) zmL_grounds (by decide) m_933 ⟨(Nat.le_of_ble_eq_true rfl), (Nat.le_of_ble_eq_true rfl)⟩ ⟨by show cells + 1 ≤ 40; omega, by show slots + 6 ≤ 240; omega⟩ rfl hl.1 rfl (Nat.le_of_ble_eq_true rfl) dL_acts_615 hS (fun q h => h.elim) (fun H locs hG hsz hfr hS => ?_)
  replace hDp := va_at.kept hDp (hfr dp (va_at.lt hDp) (fun z => z))
  rw [ra_gf hP (show c1 < 1000 by omega)]
  refine lv_istore (lv' := [(8, .int (gnd μ c1)), (7, .int (zA μ 38 0 c1)), (6, .int (nI j1)), (5, .int (nI a1)), (4, .int (nI c1)), (0, .ref N), (1, .ref b), (2, .int (nI k1)), (3, .ref dp)]) hx hb dL_acts_618 hl (by decide) rfl (fun ls hl => ?_)
  refine lv_aload_n hx hb dL_acts_620 rfl (lv_at hl 5 rfl) ?_
  refine lv_iload hx hb dL_acts_621 (lv_at hl 4 rfl) ?_
  refine zlW (As := [.ref N, .int (nI c1)]) (rest := []) X hml C0 hA0 hG (ctL_widen l hl0 D cy rf N (zxb N 0 0) (zxa N) σ (zxd N) δ zu_J (nI c1) hP.zv hP.dc (hP.df (by omega))) zmL_widen (by decide) m_946 ⟨(Nat.le_of_ble_eq_true rfl), (Nat.le_of_ble_eq_true rfl)⟩ ⟨by show cells + 1 + 1 ≤ 40; omega, by show slots + 6 + 6 ≤ 240; omega⟩ rfl hl.1 rfl (Nat.le_of_ble_eq_true rfl) dL_acts_623 hS (fun q h => Or.inl h) (fun H locs hG hsz hfr hS => ?_)
  replace hDp := va_at.kept hDp (hfr dp (va_at.lt hDp) (fun z => by have := zu_ra z; omega))
  obtain ⟨μ_16, τ_16, hP_16, g2, hF⟩ := pf_13 hP (by omega) (f := c1) (by omega)
  generalize zans (k_ref σ (nI 13) (nI c1) 0 0 0) (k_pr σ (nI 13) (nI c1) 0 0 0) = t_16 at hF ⊢
  generalize k_nS σ 13 (nI c1) 0 0 0 = σ_16 at hG hP_16
  generalize k_nD σ δ 13 (nI c1) 0 0 0 = δ_16 at hG hP_16
  rcases hF with g1 | ⟨g1, g3, g4, g5⟩
  · refine lv_istore (lv' := [(9, .int t_16), (8, .int (gnd μ c1)), (7, .int (zA μ 38 0 c1)), (6, .int (nI j1)), (5, .int (nI a1)), (4, .int (nI c1)), (0, .ref N), (1, .ref b), (2, .int (nI k1)), (3, .ref dp)]) hx hb dL_acts_626 hl (by decide) rfl (fun ls hl => ?_)
    refine lv_iload hx hb dL_acts_628 (lv_at hl 0 rfl) ?_
    refine lv_if_lt (tgt := 644) hx hb dL_acts_630 (by decide) (fun b1 => ?_) (fun h => absurd g1 h)
    refine lv_iconst (v := 1) hx hb dL_acts_644 (by decide) ?_
    refine lv_goto (tgt := 649) hx hb dL_acts_645 (by decide) ?_
    exact zo_z (b := true) hx hb hr hlocks rfl ⟨σ_16, δ_16, μ_16, τ_16, V, hG, hDp, hP_16.up (by omega) (by omega), RD_up g2 (by decide)⟩ hS (by omega) (by omega) dL_acts_649
  · refine lv_istore (lv' := [(9, .int t_16), (8, .int (gnd μ c1)), (7, .int (zA μ 38 0 c1)), (6, .int (nI j1)), (5, .int (nI a1)), (4, .int (nI c1)), (0, .ref N), (1, .ref b), (2, .int (nI k1)), (3, .ref dp)]) hx hb dL_acts_626 hl (by decide) rfl (fun ls hl => ?_)
    refine lv_iload hx hb dL_acts_628 (lv_at hl 0 rfl) ?_
    refine lv_if_lt (tgt := 644) hx hb dL_acts_630 (by decide) (fun h => absurd h g1) (fun b2 => ?_)
    refine lv_aload_n hx hb dL_acts_633 rfl (lv_at hl 6 rfl) ?_
    refine lv_iload hx hb dL_acts_634 (lv_at hl 5 rfl) ?_
    refine zlW (As := [.ref N, .int (nI c1)]) (rest := []) X hml C0 hA0 hG (ctL_grounds l hl0 D cy rf N (zxb N 0 0) (zxa N) σ_16 (zxd N) δ_16 (nI c1) hP_16.zv) zmL_grounds (by decide) m_933 ⟨(Nat.le_of_ble_eq_true rfl), (Nat.le_of_ble_eq_true rfl)⟩ ⟨by show cells + 1 + 1 + 1 ≤ 40; omega, by show slots + 6 + 6 + 6 ≤ 240; omega⟩ rfl hl.1 rfl (Nat.le_of_ble_eq_true rfl) dL_acts_636 hS (fun q h => h.elim) (fun H locs hG hsz hfr hS => ?_)
    replace hDp := va_at.kept hDp (hfr dp (va_at.lt hDp) (fun z => z))
    rw [ra_gf hP_16 (show c1 < 1000 by omega)]
    refine lv_iload hx hb dL_acts_639 (lv_at hl 1 rfl) ?_
    refine lv_icmp_lt (tgt := 648) hx hb dL_acts_641 (by decide) (fun h => absurd h (gnd_le hP_16 g3 g4 g5 hP)) (fun b3 => ?_)
    refine lv_iconst (v := 1) hx hb dL_acts_644 (by decide) ?_
    refine lv_goto (tgt := 649) hx hb dL_acts_645 (by decide) ?_
    exact zo_z (b := true) hx hb hr hlocks rfl ⟨σ_16, δ_16, μ_16, τ_16, V, hG, hDp, hP_16.up (by omega) (by omega), RD_up g2 (by decide)⟩ hS (by omega) (by omega) dL_acts_649
set_option maxRecDepth 100000 in
set_option maxHeartbeats 4000000 in
theorem zac_650 (X : zX p m c s args RL cL_acts) (hml : c.maxLocals = 11) (hr : meth.sig.returnType = some .boolean) (hlocks : meth.locks = false) (hl0 : l.stackTraces = false) (hL31 : L < 2 ^ 31) (C0 : zCx s D cy rf N b L xs ak av) (hdp : N + 339 ≤ dp) (hc : c1 < 8) (ha : a1 < 4) (hj : j1 < 6) (hK : K + 8 ≤ 512) (hbb : 36 * bb + 36 ≤ 9999) (hP : zP 4 8 3 K bb V σ δ μ τ) (hG : zSA D cy N (zxb N 0 0) (zxa N) σ (zxd N) δ H) (hDp : zDp D cy dp V H) (hS : va_S (zRD N dp) s.heap H locs) (hl : lv_has ls 11 [(7, .int (zA μ 38 0 c1)), (6, .int (nI j1)), (5, .int (nI a1)), (4, .int (nI c1)), (0, .ref N), (1, .ref b), (2, .int (nI k1)), (3, .ref dp)]) (hcl : cells ≤ 4) (hsl : slots ≤ 24) : W p l e (zrx 10 40 240) s m args below meth c H locs cells slots (MQ below (zqM (some (.int (bI true))) (zAE D cy N dp K bb μ) (zRD N dp)) args s 40 240 (zRD N dp)) (F0 m 650 ls []) := by
  obtain ⟨hx, hb, -, -⟩ := id X
  have hA0 : ∀ q, zRD N dp q → zLA N q := fun q h => zRD_N hdp h
  refine lv_aload_n hx hb dL_acts_650 rfl (lv_at hl 4 rfl) ?_
  refine lv_iload hx hb dL_acts_651 (lv_at hl 3 rfl) ?_
  refine va_ldcS hx hb X.2.2.1 C0.2.2.2.2.2.1 dL_acts_653 ?_
  refine lv_iload hx hb dL_acts_655 (lv_at hl 1 rfl) ?_
  refine lv_iconst (v := 5) hx hb dL_acts_657 (by decide) ?_
  refine lv_irem hx hb dL_acts_658 (by decide) ?_
  rw [show ((nI j1) - (nI j1) / 5 * 5 : Int32) = nI (j1 % 5) from pk_rem (d := 5) (by omega) (by decide) (by decide)]
  refine zcallVj (As := [.int (nI (j1 % 5))]) (rest := [.int (nI c1), .ref N]) X hml (zCx_st C0 hS hA0) (ctJ0_charAt_5068e l ak av (j1 % 5) (Nat.mod_lt _ (by decide))) zmJ0_charAt_5068e (by decide) m_954 (va_Orecv (C0.2.2.2.2.1.1.1 0 (by decide)).1 (zS_up hS hA0)) ⟨(Nat.le_of_ble_eq_true rfl), (Nat.le_of_ble_eq_true rfl)⟩ ⟨by show cells ≤ 40; omega, by show slots ≤ 240; omega⟩ rfl hl.1 rfl (Nat.le_of_ble_eq_true rfl) dL_acts_659 ?_
  refine zlW (As := [.ref N, .int (nI c1), .int (zch (j1 % 5))]) (rest := []) X hml C0 hA0 hG (ctL_tellCause l hl0 D cy rf N (zxb N 0 0) (zxa N) σ (zxd N) δ zu_J (nI c1) (zch (j1 % 5)) hP.zv hP.dc (hP.df (by omega))) zmL_tellCause (by decide) m_994 ⟨(Nat.le_of_ble_eq_true rfl), (Nat.le_of_ble_eq_true rfl)⟩ ⟨by show cells + 1 ≤ 40; omega, by show slots + 6 ≤ 240; omega⟩ rfl hl.1 rfl (Nat.le_of_ble_eq_true rfl) dL_acts_662 hS (fun q h => Or.inl h) (fun H locs hG hsz hfr hS => ?_)
  replace hDp := va_at.kept hDp (hfr dp (va_at.lt hDp) (fun z => by have := zu_ra z; omega))
  obtain ⟨μ_17, τ_17, hP_17, g2, hF⟩ := pf_14 hP (by omega) (f := c1) (by omega) (zch (j1 % 5))
  generalize zans (k_ref σ (nI 14) (nI c1) (zch (j1 % 5)) 0 0) ((k_pr σ (nI 14) (nI c1) (zch (j1 % 5)) 0 0).toUInt32 % 65536).toInt32 = t_17 at hF ⊢
  generalize k_nS σ 14 (nI c1) (zch (j1 % 5)) 0 0 = σ_17 at hG hP_17
  generalize k_nD σ δ 14 (nI c1) (zch (j1 % 5)) 0 0 = δ_17 at hG hP_17
  refine lv_if_eq (tgt := 696) hx hb dL_acts_665 (by decide) (fun h => absurd h hF) (fun b1 => ?_)
  refine lv_iload hx hb dL_acts_668 (lv_at hl 2 rfl) ?_
  refine lv_if_gt (tgt := 692) hx hb dL_acts_670 (by decide) (fun b2 => ?_) (fun b2 => ?_)
  · refine lv_iconst (v := 1) hx hb dL_acts_692 (by decide) ?_
    refine lv_goto (tgt := 697) hx hb dL_acts_693 (by decide) ?_
    exact zo_z (b := true) hx hb hr hlocks rfl ⟨σ_17, δ_17, μ_17, τ_17, V, hG, hDp, hP_17.up (by omega) (by omega), RD_up g2 (by decide)⟩ hS (by omega) (by omega) dL_acts_697
  · refine lv_aload_n hx hb dL_acts_673 rfl (lv_at hl 4 rfl) ?_
    refine lv_iload hx hb dL_acts_674 (lv_at hl 3 rfl) ?_
    refine zlW (As := [.ref N, .int (nI c1)]) (rest := []) X hml C0 hA0 hG (ctL_close l hl0 D cy rf N (zxb N 0 0) (zxa N) σ_17 (zxd N) δ_17 zu_J (nI c1) hP_17.zv hP_17.dc (hP_17.df (by omega))) zmL_close (by decide) m_1001 ⟨(Nat.le_of_ble_eq_true rfl), (Nat.le_of_ble_eq_true rfl)⟩ ⟨by show cells + 1 + 1 ≤ 40; omega, by show slots + 6 + 6 ≤ 240; omega⟩ rfl hl.1 rfl (Nat.le_of_ble_eq_true rfl) dL_acts_676 hS (fun q h => Or.inl h) (fun H locs hG hsz hfr hS => ?_)
    replace hDp := va_at.kept hDp (hfr dp (va_at.lt hDp) (fun z => by have := zu_ra z; omega))
    obtain ⟨μ_18, τ_18, hP_18, g4, hF2⟩ := pf_15 hP_17 (by omega) (f := c1) (by omega)
    generalize zans (k_ref σ_17 (nI 15) (nI c1) 0 0 0) (bI (decide (k_pr σ_17 (nI 15) (nI c1) 0 0 0 = 1))) = t_18 at hF2 ⊢
    generalize k_nS σ_17 15 (nI c1) 0 0 0 = σ_18 at hG hP_18
    generalize k_nD σ_17 δ_17 15 (nI c1) 0 0 0 = δ_18 at hG hP_18
    rcases hF2 with g5 | ⟨g5, g6, g7⟩
    · refine lv_iconst (v := 1) hx hb dL_acts_679 (by decide) ?_
      refine lv_icmp_lt (tgt := 692) hx hb dL_acts_680 (by decide) (fun b3 => ?_) (fun h => absurd g5 h)
      refine lv_iconst (v := 1) hx hb dL_acts_692 (by decide) ?_
      refine lv_goto (tgt := 697) hx hb dL_acts_693 (by decide) ?_
      exact zo_z (b := true) hx hb hr hlocks rfl ⟨σ_18, δ_18, μ_18, τ_18, V, hG, hDp, hP_18.up (by omega) (by omega), RD_up (RD_tr g2 g4) (by decide)⟩ hS (by omega) (by omega) dL_acts_697
    · refine lv_iconst (v := 1) hx hb dL_acts_679 (by decide) ?_
      refine lv_icmp_lt (tgt := 692) hx hb dL_acts_680 (by decide) (fun h => absurd h g5) (fun b4 => ?_)
      refine lv_aload_n hx hb dL_acts_683 rfl (lv_at hl 4 rfl) ?_
      refine lv_iload hx hb dL_acts_684 (lv_at hl 3 rfl) ?_
      refine zlW (As := [.ref N, .int (nI c1)]) (rest := []) X hml C0 hA0 hG (ctL_grounds l hl0 D cy rf N (zxb N 0 0) (zxa N) σ_18 (zxd N) δ_18 (nI c1) hP_18.zv) zmL_grounds (by decide) m_933 ⟨(Nat.le_of_ble_eq_true rfl), (Nat.le_of_ble_eq_true rfl)⟩ ⟨by show cells + 1 + 1 + 1 ≤ 40; omega, by show slots + 6 + 6 + 6 ≤ 240; omega⟩ rfl hl.1 rfl (Nat.le_of_ble_eq_true rfl) dL_acts_686 hS (fun q h => h.elim) (fun H locs hG hsz hfr hS => ?_)
      replace hDp := va_at.kept hDp (hfr dp (va_at.lt hDp) (fun z => z))
      rw [ra_gf hP_18 (show c1 < 1000 by omega)]
      rw [show gnd μ_18 c1 = 0 from by unfold gnd; rw [if_pos g6, g7]; rfl]
      refine lv_if_ne (tgt := 696) hx hb dL_acts_689 (by decide) (fun h => absurd h (by decide)) (fun _ => ?_)
      refine lv_iconst (v := 1) hx hb dL_acts_692 (by decide) ?_
      refine lv_goto (tgt := 697) hx hb dL_acts_693 (by decide) ?_
      exact zo_z (b := true) hx hb hr hlocks rfl ⟨σ_18, δ_18, μ_18, τ_18, V, hG, hDp, hP_18.up (by omega) (by omega), RD_up (RD_tr g2 g4) (by decide)⟩ hS (by omega) (by omega) dL_acts_697
set_option maxRecDepth 100000 in
set_option maxHeartbeats 4000000 in
theorem zac_698 (X : zX p m c s args RL cL_acts) (hml : c.maxLocals = 11) (hr : meth.sig.returnType = some .boolean) (hlocks : meth.locks = false) (hl0 : l.stackTraces = false) (hL31 : L < 2 ^ 31) (C0 : zCx s D cy rf N b L xs ak av) (hdp : N + 339 ≤ dp) (hc : c1 < 8) (ha : a1 < 4) (hj : j1 < 6) (hK : K + 8 ≤ 512) (hbb : 36 * bb + 36 ≤ 9999) (hP : zP 4 8 3 K bb V σ δ μ τ) (hG : zSA D cy N (zxb N 0 0) (zxa N) σ (zxd N) δ H) (hDp : zDp D cy dp V H) (hS : va_S (zRD N dp) s.heap H locs) (hl : lv_has ls 11 [(7, .int (zA μ 38 0 c1)), (6, .int (nI j1)), (5, .int (nI a1)), (4, .int (nI c1)), (0, .ref N), (1, .ref b), (2, .int (nI k1)), (3, .ref dp)]) (hcl : cells ≤ 4) (hsl : slots ≤ 24) : W p l e (zrx 10 40 240) s m args below meth c H locs cells slots (MQ below (zqM (some (.int (bI true))) (zAE D cy N dp K bb μ) (zRD N dp)) args s 40 240 (zRD N dp)) (F0 m 698 ls []) := by
  obtain ⟨hx, hb, -, -⟩ := id X
  have hA0 : ∀ q, zRD N dp q → zLA N q := fun q h => zRD_N hdp h
  refine lv_iload hx hb dL_acts_698 (lv_at hl 0 rfl) ?_
  refine lv_bipush (v := 104) hx hb dL_acts_700 (by decide) ?_
  refine lv_icmp_ne (tgt := 787) hx hb dL_acts_702 (by decide) (fun b1 => ?_) (fun b1 => ?_)
  · refine lv_aload_n hx hb dL_acts_787 rfl (lv_at hl 4 rfl) ?_
    refine lv_iload hx hb dL_acts_788 (lv_at hl 3 rfl) ?_
    refine lv_iconst (v := 1) hx hb dL_acts_790 (by decide) ?_
    refine lv_iload hx hb dL_acts_791 (lv_at hl 1 rfl) ?_
    refine lv_iadd hx hb dL_acts_793 ?_
    rw [show (1 + (nI j1) : Int32) = nI (1 + j1) from nI_add 1 j1]
    refine lv_bipush (v := 20) hx hb dL_acts_794 (by decide) ?_
    refine lv_iload hx hb dL_acts_796 (lv_at hl 2 rfl) ?_
    refine lv_imul hx hb dL_acts_798 ?_
    rw [show (20 * (nI a1) : Int32) = nI (20 * a1) from pk_mul 20 a1]
    refine zlW (As := [.ref N, .int (nI c1), .int (nI (1 + j1)), .int (nI (20 * a1))]) (rest := []) X hml C0 hA0 hG (ctL_hire l hl0 D cy rf N (zxb N 0 0) (zxa N) σ (zxd N) δ zu_J (nI c1) (nI (1 + j1)) (nI (20 * a1)) hP.zv hP.dc (hP.df (by omega))) zmL_hire (by decide) m_1015 ⟨(Nat.le_of_ble_eq_true rfl), (Nat.le_of_ble_eq_true rfl)⟩ ⟨by show cells + 1 ≤ 40; omega, by show slots + 6 ≤ 240; omega⟩ rfl hl.1 rfl (Nat.le_of_ble_eq_true rfl) dL_acts_799 hS (fun q h => Or.inl h) (fun H locs hG hsz hfr hS => ?_)
    replace hDp := va_at.kept hDp (hfr dp (va_at.lt hDp) (fun z => by have := zu_ra z; omega))
    obtain ⟨μ_19, τ_19, g2, hF⟩ := pf_18 hP (by omega) (x := 1 + j1) (y := 20 * a1) hc (by omega) (by omega) (by omega) b1
    generalize zans (k_ref σ (nI 18) (nI c1) (nI (1 + j1)) (nI (20 * a1)) 0) (k_pr σ (nI 18) (nI c1) (nI (1 + j1)) (nI (20 * a1)) 0) = t_19 at hF ⊢
    generalize k_nS σ 18 (nI c1) (nI (1 + j1)) (nI (20 * a1)) 0 = σ_19 at hG hF
    generalize k_nD σ δ 18 (nI c1) (nI (1 + j1)) (nI (20 * a1)) 0 = δ_19 at hG hF
    rcases hF with ⟨g1, hP_19⟩ | ⟨g1, g3, g4, hP_19⟩
    · refine lv_istore (lv' := [(8, .int t_19), (7, .int (zA μ 38 0 c1)), (6, .int (nI j1)), (5, .int (nI a1)), (4, .int (nI c1)), (0, .ref N), (1, .ref b), (2, .int (nI k1)), (3, .ref dp)]) hx hb dL_acts_802 hl (by decide) rfl (fun ls hl => ?_)
      refine lv_aload_n hx hb dL_acts_804 rfl (lv_at hl 8 rfl) ?_
      refine lv_iload hx hb dL_acts_805 (lv_at hl 4 rfl) ?_
      refine lv_iload hx hb dL_acts_807 (lv_at hl 0 rfl) ?_
      refine lv_if_le (tgt := 822) hx hb dL_acts_809 (by decide) (fun b2 => ?_) (fun h => absurd (by rw [g1]; decide) h)
      refine lv_lconst (v := 0) hx hb dL_acts_822 rfl ?_
      refine zds hc X C0.1 hDp hS (Or.inr rfl) dL_acts_823 (fun H locs hDp hfz hfr hS => ?_)
      replace hG := zSA_k hG (fun q hq => hfr q (by omega))
      refine lv_iload hx hb dL_acts_824 (lv_at hl 0 rfl) ?_
      refine lv_bipush (v := (-76)) hx hb dL_acts_826 (by decide) ?_
      refine lv_icmp_eq (tgt := 854) hx hb dL_acts_828 (by decide) (fun b3 => ?_) (fun h => absurd g1 h)
      refine lv_iconst (v := 1) hx hb dL_acts_854 (by decide) ?_
      refine lv_goto (tgt := 859) hx hb dL_acts_855 (by decide) ?_
      exact zo_z (b := true) hx hb hr hlocks rfl ⟨σ_19, δ_19, μ_19, τ_19, (vup V c1 0), hG, hDp, hP_19.up (by omega) (by omega), RD_up g2 (by decide)⟩ hS (by omega) (by omega) dL_acts_859
    · refine lv_istore (lv' := [(8, .int t_19), (7, .int (zA μ 38 0 c1)), (6, .int (nI j1)), (5, .int (nI a1)), (4, .int (nI c1)), (0, .ref N), (1, .ref b), (2, .int (nI k1)), (3, .ref dp)]) hx hb dL_acts_802 hl (by decide) rfl (fun ls hl => ?_)
      refine lv_aload_n hx hb dL_acts_804 rfl (lv_at hl 8 rfl) ?_
      refine lv_iload hx hb dL_acts_805 (lv_at hl 4 rfl) ?_
      refine lv_iload hx hb dL_acts_807 (lv_at hl 0 rfl) ?_
      refine lv_if_le (tgt := 822) hx hb dL_acts_809 (by decide) (fun h => absurd h (Int32.not_le.mpr g1)) (fun b4 => ?_)
      refine lv_ldc2 hx hb X.2.2.1 (X.2.2.2 _ m_1022) dL_acts_812 ?_
      refine lv_iload hx hb dL_acts_815 (lv_at hl 3 rfl) ?_
      refine lv_i2l hx hb dL_acts_817 rfl ?_
      refine lv_lmul hx hb dL_acts_818 ?_
      rw [show (20 : Int64) * (nI a1).toInt64 = (nI (20 * a1)).toInt64 from zl_20 (by omega)]
      refine lv_goto (tgt := 823) hx hb dL_acts_819 (by decide) ?_
      refine zds hc X C0.1 hDp hS (Or.inr rfl) dL_acts_823 (fun H locs hDp hfz hfr hS => ?_)
      replace hG := zSA_k hG (fun q hq => hfr q (by omega))
      refine lv_iload hx hb dL_acts_824 (lv_at hl 0 rfl) ?_
      refine lv_bipush (v := (-76)) hx hb dL_acts_826 (by decide) ?_
      refine lv_icmp_eq (tgt := 854) hx hb dL_acts_828 (by decide) (fun h => absurd h (fun z => by rw [z] at g1; exact absurd g1 (by decide))) (fun b5 => ?_)
      refine lv_iload hx hb dL_acts_831 (lv_at hl 0 rfl) ?_
      refine lv_if_le (tgt := 858) hx hb dL_acts_833 (by decide) (fun h => absurd h (Int32.not_le.mpr g1)) (fun b6 => ?_)
      refine lv_iload hx hb dL_acts_836 (lv_at hl 1 rfl) ?_
      refine lv_bipush (v := 107) hx hb dL_acts_838 (by decide) ?_
      refine lv_icmp_ne (tgt := 858) hx hb dL_acts_840 (by decide) (fun h => absurd h (not_not_intro g3)) (fun b7 => ?_)
      refine lv_aload_n hx hb dL_acts_843 rfl (lv_at hl 5 rfl) ?_
      refine lv_iload hx hb dL_acts_844 (lv_at hl 4 rfl) ?_
      refine zlW (As := [.ref N, .int (nI c1)]) (rest := []) X hml C0 hA0 hG (ctL_stateOf l hl0 D cy rf N (zxb N 0 0) (zxa N) σ_19 (zxd N) δ_19 (nI c1) hP_19.zv (ra_ch hP_19 _)) zmL_stateOf (by decide) m_846 ⟨(Nat.le_of_ble_eq_true rfl), (Nat.le_of_ble_eq_true rfl)⟩ ⟨by show cells + 1 + 1 ≤ 40; omega, by show slots + 6 + 6 ≤ 240; omega⟩ rfl hl.1 rfl (Nat.le_of_ble_eq_true rfl) dL_acts_846 hS (fun q h => h.elim) (fun H locs hG hsz hfr hS => ?_)
      replace hDp := va_at.kept hDp (hfr dp (va_at.lt hDp) (fun z => z))
      rw [ra_st hP_19 hc]
      refine lv_bipush (v := 104) hx hb dL_acts_849 (by decide) ?_
      refine lv_icmp_ne (tgt := 858) hx hb dL_acts_851 (by decide) (fun h => absurd h (not_not_intro g4)) (fun b8 => ?_)
      refine lv_iconst (v := 1) hx hb dL_acts_854 (by decide) ?_
      refine lv_goto (tgt := 859) hx hb dL_acts_855 (by decide) ?_
      exact zo_z (b := true) hx hb hr hlocks rfl ⟨σ_19, δ_19, μ_19, τ_19, (vup V c1 ((nI (20 * a1)).toInt64)), hG, hDp, hP_19.up (by omega) (by omega), RD_up g2 (by decide)⟩ hS (by omega) (by omega) dL_acts_859
  · refine lv_aload_n hx hb dL_acts_705 rfl (lv_at hl 4 rfl) ?_
    refine lv_iload hx hb dL_acts_706 (lv_at hl 3 rfl) ?_
    refine lv_iload hx hb dL_acts_708 (lv_at hl 1 rfl) ?_
    refine lv_iconst (v := 2) hx hb dL_acts_710 (by decide) ?_
    refine lv_icmp_le (tgt := 718) hx hb dL_acts_711 (by decide) (fun b9 => ?_) (fun b9 => ?_)
    · refine lv_iconst (v := 0) hx hb dL_acts_718 (by decide) ?_
      refine lv_iload hx hb dL_acts_719 (lv_at hl 2 rfl) ?_
      refine lv_if_ne (tgt := 728) hx hb dL_acts_721 (by decide) (fun b10 => ?_) (fun b10 => ?_)
      · refine lv_iconst (v := 0) hx hb dL_acts_728 (by decide) ?_
        refine zlW (As := [.ref N, .int (nI c1), .int (bI false), .int (bI false)]) (rest := []) X hml C0 hA0 hG (ctL_back l hl0 D cy rf N (zxb N 0 0) (zxa N) σ (zxd N) δ zu_J (nI c1) false false hP.zv hP.dc (hP.df (by omega))) zmL_back (by decide) m_1008 ⟨(Nat.le_of_ble_eq_true rfl), (Nat.le_of_ble_eq_true rfl)⟩ ⟨by show cells + 1 ≤ 40; omega, by show slots + 6 ≤ 240; omega⟩ rfl hl.1 rfl (Nat.le_of_ble_eq_true rfl) dL_acts_729 hS (fun q h => Or.inl h) (fun H locs hG hsz hfr hS => ?_)
        replace hDp := va_at.kept hDp (hfr dp (va_at.lt hDp) (fun z => by have := zu_ra z; omega))
        obtain ⟨μ_20, τ_20, hP_20, g2, g3, q, x, hqx, hx60, g4, g5⟩ := pf_19 hP (by omega) hc false false b1
        generalize zans (k_ref σ (nI 19) (nI c1) (bI false) (bI false) 0) (k_pr σ (nI 19) (nI c1) (bI false) (bI false) 0) = t_20 at g4 ⊢
        generalize k_nS σ 19 (nI c1) (bI false) (bI false) 0 = σ_20 at hG hP_20
        generalize k_nD σ δ 19 (nI c1) (bI false) (bI false) 0 = δ_20 at hG hP_20
        subst g4
        refine lv_istore (lv' := [(8, .int (nI q)), (7, .int (zA μ 38 0 c1)), (6, .int (nI j1)), (5, .int (nI a1)), (4, .int (nI c1)), (0, .ref N), (1, .ref b), (2, .int (nI k1)), (3, .ref dp)]) hx hb dL_acts_732 hl (by decide) rfl (fun ls hl => ?_)
        refine lv_aload_n hx hb dL_acts_734 rfl (lv_at hl 8 rfl) ?_
        refine lv_iload hx hb dL_acts_735 (lv_at hl 4 rfl) ?_
        refine zdl hc X C0.1 hDp dL_acts_737 ?_
        refine lv_lstore (lv' := [(9, .long (V c1)), (8, .int (nI q)), (7, .int (zA μ 38 0 c1)), (6, .int (nI j1)), (5, .int (nI a1)), (4, .int (nI c1)), (0, .ref N), (1, .ref b), (2, .int (nI k1)), (3, .ref dp)]) hx hb dL_acts_738 hl (by decide) rfl (fun ls hl => ?_)
        refine lv_aload_n hx hb dL_acts_740 rfl (lv_at hl 9 rfl) ?_
        refine lv_iload hx hb dL_acts_741 (lv_at hl 5 rfl) ?_
        refine lv_lconst (v := 0) hx hb dL_acts_743 rfl ?_
        refine zds hc X C0.1 hDp hS (Or.inr rfl) dL_acts_744 (fun H locs hDp hfz hfr hS => ?_)
        replace hG := zSA_k hG (fun q hq => hfr q (by omega))
        refine lv_iload hx hb dL_acts_745 (lv_at hl 1 rfl) ?_
        refine lv_if_lt (tgt := 785) hx hb dL_acts_747 (by decide) (fun h => absurd h (nI_pos (by omega))) (fun b11 => ?_)
        refine lv_iload hx hb dL_acts_750 (lv_at hl 1 rfl) ?_
        refine lv_i2l hx hb dL_acts_752 rfl ?_
        refine lv_lload hx hb dL_acts_753 (lv_at hl 0 rfl) ?_
        refine W.lcmp hx hb dL_acts_755 ?_
        refine lv_if_gt (tgt := 785) hx hb dL_acts_756 (by decide) (fun h => absurd h (lcmp_le hqx hx60 g5)) (fun b12 => ?_)
        refine lv_aload_n hx hb dL_acts_759 rfl (lv_at hl 6 rfl) ?_
        refine lv_iload hx hb dL_acts_760 (lv_at hl 5 rfl) ?_
        refine zlW (As := [.ref N, .int (nI c1)]) (rest := []) X hml C0 hA0 hG (ctL_stateOf l hl0 D cy rf N (zxb N 0 0) (zxa N) σ_20 (zxd N) δ_20 (nI c1) hP_20.zv (ra_ch hP_20 _)) zmL_stateOf (by decide) m_846 ⟨(Nat.le_of_ble_eq_true rfl), (Nat.le_of_ble_eq_true rfl)⟩ ⟨by show cells + 1 + 1 ≤ 40; omega, by show slots + 6 + 6 ≤ 240; omega⟩ rfl hl.1 rfl (Nat.le_of_ble_eq_true rfl) dL_acts_762 hS (fun q h => h.elim) (fun H locs hG hsz hfr hS => ?_)
        replace hDp := va_at.kept hDp (hfr dp (va_at.lt hDp) (fun z => z))
        rw [ra_st hP_20 hc]
        refine lv_iload hx hb dL_acts_765 (lv_at hl 3 rfl) ?_
        refine lv_iconst (v := 2) hx hb dL_acts_767 (by decide) ?_
        refine lv_icmp_le (tgt := 776) hx hb dL_acts_768 (by decide) (fun b13 => ?_) (fun h => absurd b9 h)
        refine lv_bipush (v := 107) hx hb dL_acts_776 (by decide) ?_
        refine lv_icmp_ne (tgt := 785) hx hb dL_acts_778 (by decide) (fun h => absurd h (not_not_intro g3)) (fun b14 => ?_)
        refine lv_iconst (v := 1) hx hb dL_acts_781 (by decide) ?_
        refine lv_goto (tgt := 786) hx hb dL_acts_782 (by decide) ?_
        exact zo_z (b := true) hx hb hr hlocks rfl ⟨σ_20, δ_20, μ_20, τ_20, (vup V c1 0), hG, hDp, hP_20.up (by omega) (by omega), RD_up g2 (by decide)⟩ hS (by omega) (by omega) dL_acts_786
      · refine lv_iconst (v := 1) hx hb dL_acts_724 (by decide) ?_
        refine lv_goto (tgt := 729) hx hb dL_acts_725 (by decide) ?_
        refine zlW (As := [.ref N, .int (nI c1), .int (bI false), .int (bI true)]) (rest := []) X hml C0 hA0 hG (ctL_back l hl0 D cy rf N (zxb N 0 0) (zxa N) σ (zxd N) δ zu_J (nI c1) false true hP.zv hP.dc (hP.df (by omega))) zmL_back (by decide) m_1008 ⟨(Nat.le_of_ble_eq_true rfl), (Nat.le_of_ble_eq_true rfl)⟩ ⟨by show cells + 1 ≤ 40; omega, by show slots + 6 ≤ 240; omega⟩ rfl hl.1 rfl (Nat.le_of_ble_eq_true rfl) dL_acts_729 hS (fun q h => Or.inl h) (fun H locs hG hsz hfr hS => ?_)
        replace hDp := va_at.kept hDp (hfr dp (va_at.lt hDp) (fun z => by have := zu_ra z; omega))
        obtain ⟨μ_21, τ_21, hP_21, g2, g3, q, x, hqx, hx60, g4, g5⟩ := pf_19 hP (by omega) hc false true b1
        generalize zans (k_ref σ (nI 19) (nI c1) (bI false) (bI true) 0) (k_pr σ (nI 19) (nI c1) (bI false) (bI true) 0) = t_21 at g4 ⊢
        generalize k_nS σ 19 (nI c1) (bI false) (bI true) 0 = σ_21 at hG hP_21
        generalize k_nD σ δ 19 (nI c1) (bI false) (bI true) 0 = δ_21 at hG hP_21
        subst g4
        refine lv_istore (lv' := [(8, .int (nI q)), (7, .int (zA μ 38 0 c1)), (6, .int (nI j1)), (5, .int (nI a1)), (4, .int (nI c1)), (0, .ref N), (1, .ref b), (2, .int (nI k1)), (3, .ref dp)]) hx hb dL_acts_732 hl (by decide) rfl (fun ls hl => ?_)
        refine lv_aload_n hx hb dL_acts_734 rfl (lv_at hl 8 rfl) ?_
        refine lv_iload hx hb dL_acts_735 (lv_at hl 4 rfl) ?_
        refine zdl hc X C0.1 hDp dL_acts_737 ?_
        refine lv_lstore (lv' := [(9, .long (V c1)), (8, .int (nI q)), (7, .int (zA μ 38 0 c1)), (6, .int (nI j1)), (5, .int (nI a1)), (4, .int (nI c1)), (0, .ref N), (1, .ref b), (2, .int (nI k1)), (3, .ref dp)]) hx hb dL_acts_738 hl (by decide) rfl (fun ls hl => ?_)
        refine lv_aload_n hx hb dL_acts_740 rfl (lv_at hl 9 rfl) ?_
        refine lv_iload hx hb dL_acts_741 (lv_at hl 5 rfl) ?_
        refine lv_lconst (v := 0) hx hb dL_acts_743 rfl ?_
        refine zds hc X C0.1 hDp hS (Or.inr rfl) dL_acts_744 (fun H locs hDp hfz hfr hS => ?_)
        replace hG := zSA_k hG (fun q hq => hfr q (by omega))
        refine lv_iload hx hb dL_acts_745 (lv_at hl 1 rfl) ?_
        refine lv_if_lt (tgt := 785) hx hb dL_acts_747 (by decide) (fun h => absurd h (nI_pos (by omega))) (fun b15 => ?_)
        refine lv_iload hx hb dL_acts_750 (lv_at hl 1 rfl) ?_
        refine lv_i2l hx hb dL_acts_752 rfl ?_
        refine lv_lload hx hb dL_acts_753 (lv_at hl 0 rfl) ?_
        refine W.lcmp hx hb dL_acts_755 ?_
        refine lv_if_gt (tgt := 785) hx hb dL_acts_756 (by decide) (fun h => absurd h (lcmp_le hqx hx60 g5)) (fun b16 => ?_)
        refine lv_aload_n hx hb dL_acts_759 rfl (lv_at hl 6 rfl) ?_
        refine lv_iload hx hb dL_acts_760 (lv_at hl 5 rfl) ?_
        refine zlW (As := [.ref N, .int (nI c1)]) (rest := []) X hml C0 hA0 hG (ctL_stateOf l hl0 D cy rf N (zxb N 0 0) (zxa N) σ_21 (zxd N) δ_21 (nI c1) hP_21.zv (ra_ch hP_21 _)) zmL_stateOf (by decide) m_846 ⟨(Nat.le_of_ble_eq_true rfl), (Nat.le_of_ble_eq_true rfl)⟩ ⟨by show cells + 1 + 1 ≤ 40; omega, by show slots + 6 + 6 ≤ 240; omega⟩ rfl hl.1 rfl (Nat.le_of_ble_eq_true rfl) dL_acts_762 hS (fun q h => h.elim) (fun H locs hG hsz hfr hS => ?_)
        replace hDp := va_at.kept hDp (hfr dp (va_at.lt hDp) (fun z => z))
        rw [ra_st hP_21 hc]
        refine lv_iload hx hb dL_acts_765 (lv_at hl 3 rfl) ?_
        refine lv_iconst (v := 2) hx hb dL_acts_767 (by decide) ?_
        refine lv_icmp_le (tgt := 776) hx hb dL_acts_768 (by decide) (fun b17 => ?_) (fun h => absurd b9 h)
        refine lv_bipush (v := 107) hx hb dL_acts_776 (by decide) ?_
        refine lv_icmp_ne (tgt := 785) hx hb dL_acts_778 (by decide) (fun h => absurd h (not_not_intro g3)) (fun b18 => ?_)
        refine lv_iconst (v := 1) hx hb dL_acts_781 (by decide) ?_
        refine lv_goto (tgt := 786) hx hb dL_acts_782 (by decide) ?_
        exact zo_z (b := true) hx hb hr hlocks rfl ⟨σ_21, δ_21, μ_21, τ_21, (vup V c1 0), hG, hDp, hP_21.up (by omega) (by omega), RD_up g2 (by decide)⟩ hS (by omega) (by omega) dL_acts_786
    · refine lv_iconst (v := 1) hx hb dL_acts_714 (by decide) ?_
      refine lv_goto (tgt := 719) hx hb dL_acts_715 (by decide) ?_
      refine lv_iload hx hb dL_acts_719 (lv_at hl 2 rfl) ?_
      refine lv_if_ne (tgt := 728) hx hb dL_acts_721 (by decide) (fun b19 => ?_) (fun b19 => ?_)
      · refine lv_iconst (v := 0) hx hb dL_acts_728 (by decide) ?_
        refine zlW (As := [.ref N, .int (nI c1), .int (bI true), .int (bI false)]) (rest := []) X hml C0 hA0 hG (ctL_back l hl0 D cy rf N (zxb N 0 0) (zxa N) σ (zxd N) δ zu_J (nI c1) true false hP.zv hP.dc (hP.df (by omega))) zmL_back (by decide) m_1008 ⟨(Nat.le_of_ble_eq_true rfl), (Nat.le_of_ble_eq_true rfl)⟩ ⟨by show cells + 1 ≤ 40; omega, by show slots + 6 ≤ 240; omega⟩ rfl hl.1 rfl (Nat.le_of_ble_eq_true rfl) dL_acts_729 hS (fun q h => Or.inl h) (fun H locs hG hsz hfr hS => ?_)
        replace hDp := va_at.kept hDp (hfr dp (va_at.lt hDp) (fun z => by have := zu_ra z; omega))
        obtain ⟨μ_22, τ_22, hP_22, g2, g3, q, x, hqx, hx60, g4, g5⟩ := pf_19 hP (by omega) hc true false b1
        generalize zans (k_ref σ (nI 19) (nI c1) (bI true) (bI false) 0) (k_pr σ (nI 19) (nI c1) (bI true) (bI false) 0) = t_22 at g4 ⊢
        generalize k_nS σ 19 (nI c1) (bI true) (bI false) 0 = σ_22 at hG hP_22
        generalize k_nD σ δ 19 (nI c1) (bI true) (bI false) 0 = δ_22 at hG hP_22
        subst g4
        refine lv_istore (lv' := [(8, .int (nI q)), (7, .int (zA μ 38 0 c1)), (6, .int (nI j1)), (5, .int (nI a1)), (4, .int (nI c1)), (0, .ref N), (1, .ref b), (2, .int (nI k1)), (3, .ref dp)]) hx hb dL_acts_732 hl (by decide) rfl (fun ls hl => ?_)
        refine lv_aload_n hx hb dL_acts_734 rfl (lv_at hl 8 rfl) ?_
        refine lv_iload hx hb dL_acts_735 (lv_at hl 4 rfl) ?_
        refine zdl hc X C0.1 hDp dL_acts_737 ?_
        refine lv_lstore (lv' := [(9, .long (V c1)), (8, .int (nI q)), (7, .int (zA μ 38 0 c1)), (6, .int (nI j1)), (5, .int (nI a1)), (4, .int (nI c1)), (0, .ref N), (1, .ref b), (2, .int (nI k1)), (3, .ref dp)]) hx hb dL_acts_738 hl (by decide) rfl (fun ls hl => ?_)
        refine lv_aload_n hx hb dL_acts_740 rfl (lv_at hl 9 rfl) ?_
        refine lv_iload hx hb dL_acts_741 (lv_at hl 5 rfl) ?_
        refine lv_lconst (v := 0) hx hb dL_acts_743 rfl ?_
        refine zds hc X C0.1 hDp hS (Or.inr rfl) dL_acts_744 (fun H locs hDp hfz hfr hS => ?_)
        replace hG := zSA_k hG (fun q hq => hfr q (by omega))
        refine lv_iload hx hb dL_acts_745 (lv_at hl 1 rfl) ?_
        refine lv_if_lt (tgt := 785) hx hb dL_acts_747 (by decide) (fun h => absurd h (nI_pos (by omega))) (fun b20 => ?_)
        refine lv_iload hx hb dL_acts_750 (lv_at hl 1 rfl) ?_
        refine lv_i2l hx hb dL_acts_752 rfl ?_
        refine lv_lload hx hb dL_acts_753 (lv_at hl 0 rfl) ?_
        refine W.lcmp hx hb dL_acts_755 ?_
        refine lv_if_gt (tgt := 785) hx hb dL_acts_756 (by decide) (fun h => absurd h (lcmp_le hqx hx60 g5)) (fun b21 => ?_)
        refine lv_aload_n hx hb dL_acts_759 rfl (lv_at hl 6 rfl) ?_
        refine lv_iload hx hb dL_acts_760 (lv_at hl 5 rfl) ?_
        refine zlW (As := [.ref N, .int (nI c1)]) (rest := []) X hml C0 hA0 hG (ctL_stateOf l hl0 D cy rf N (zxb N 0 0) (zxa N) σ_22 (zxd N) δ_22 (nI c1) hP_22.zv (ra_ch hP_22 _)) zmL_stateOf (by decide) m_846 ⟨(Nat.le_of_ble_eq_true rfl), (Nat.le_of_ble_eq_true rfl)⟩ ⟨by show cells + 1 + 1 ≤ 40; omega, by show slots + 6 + 6 ≤ 240; omega⟩ rfl hl.1 rfl (Nat.le_of_ble_eq_true rfl) dL_acts_762 hS (fun q h => h.elim) (fun H locs hG hsz hfr hS => ?_)
        replace hDp := va_at.kept hDp (hfr dp (va_at.lt hDp) (fun z => z))
        rw [ra_st hP_22 hc]
        refine lv_iload hx hb dL_acts_765 (lv_at hl 3 rfl) ?_
        refine lv_iconst (v := 2) hx hb dL_acts_767 (by decide) ?_
        refine lv_icmp_le (tgt := 776) hx hb dL_acts_768 (by decide) (fun h => absurd h b9) (fun b22 => ?_)
        refine lv_bipush (v := 111) hx hb dL_acts_771 (by decide) ?_
        refine lv_goto (tgt := 778) hx hb dL_acts_773 (by decide) ?_
        refine lv_icmp_ne (tgt := 785) hx hb dL_acts_778 (by decide) (fun h => absurd h (not_not_intro g3)) (fun b23 => ?_)
        refine lv_iconst (v := 1) hx hb dL_acts_781 (by decide) ?_
        refine lv_goto (tgt := 786) hx hb dL_acts_782 (by decide) ?_
        exact zo_z (b := true) hx hb hr hlocks rfl ⟨σ_22, δ_22, μ_22, τ_22, (vup V c1 0), hG, hDp, hP_22.up (by omega) (by omega), RD_up g2 (by decide)⟩ hS (by omega) (by omega) dL_acts_786
      · refine lv_iconst (v := 1) hx hb dL_acts_724 (by decide) ?_
        refine lv_goto (tgt := 729) hx hb dL_acts_725 (by decide) ?_
        refine zlW (As := [.ref N, .int (nI c1), .int (bI true), .int (bI true)]) (rest := []) X hml C0 hA0 hG (ctL_back l hl0 D cy rf N (zxb N 0 0) (zxa N) σ (zxd N) δ zu_J (nI c1) true true hP.zv hP.dc (hP.df (by omega))) zmL_back (by decide) m_1008 ⟨(Nat.le_of_ble_eq_true rfl), (Nat.le_of_ble_eq_true rfl)⟩ ⟨by show cells + 1 ≤ 40; omega, by show slots + 6 ≤ 240; omega⟩ rfl hl.1 rfl (Nat.le_of_ble_eq_true rfl) dL_acts_729 hS (fun q h => Or.inl h) (fun H locs hG hsz hfr hS => ?_)
        replace hDp := va_at.kept hDp (hfr dp (va_at.lt hDp) (fun z => by have := zu_ra z; omega))
        obtain ⟨μ_23, τ_23, hP_23, g2, g3, q, x, hqx, hx60, g4, g5⟩ := pf_19 hP (by omega) hc true true b1
        generalize zans (k_ref σ (nI 19) (nI c1) (bI true) (bI true) 0) (k_pr σ (nI 19) (nI c1) (bI true) (bI true) 0) = t_23 at g4 ⊢
        generalize k_nS σ 19 (nI c1) (bI true) (bI true) 0 = σ_23 at hG hP_23
        generalize k_nD σ δ 19 (nI c1) (bI true) (bI true) 0 = δ_23 at hG hP_23
        subst g4
        refine lv_istore (lv' := [(8, .int (nI q)), (7, .int (zA μ 38 0 c1)), (6, .int (nI j1)), (5, .int (nI a1)), (4, .int (nI c1)), (0, .ref N), (1, .ref b), (2, .int (nI k1)), (3, .ref dp)]) hx hb dL_acts_732 hl (by decide) rfl (fun ls hl => ?_)
        refine lv_aload_n hx hb dL_acts_734 rfl (lv_at hl 8 rfl) ?_
        refine lv_iload hx hb dL_acts_735 (lv_at hl 4 rfl) ?_
        refine zdl hc X C0.1 hDp dL_acts_737 ?_
        refine lv_lstore (lv' := [(9, .long (V c1)), (8, .int (nI q)), (7, .int (zA μ 38 0 c1)), (6, .int (nI j1)), (5, .int (nI a1)), (4, .int (nI c1)), (0, .ref N), (1, .ref b), (2, .int (nI k1)), (3, .ref dp)]) hx hb dL_acts_738 hl (by decide) rfl (fun ls hl => ?_)
        refine lv_aload_n hx hb dL_acts_740 rfl (lv_at hl 9 rfl) ?_
        refine lv_iload hx hb dL_acts_741 (lv_at hl 5 rfl) ?_
        refine lv_lconst (v := 0) hx hb dL_acts_743 rfl ?_
        refine zds hc X C0.1 hDp hS (Or.inr rfl) dL_acts_744 (fun H locs hDp hfz hfr hS => ?_)
        replace hG := zSA_k hG (fun q hq => hfr q (by omega))
        refine lv_iload hx hb dL_acts_745 (lv_at hl 1 rfl) ?_
        refine lv_if_lt (tgt := 785) hx hb dL_acts_747 (by decide) (fun h => absurd h (nI_pos (by omega))) (fun b24 => ?_)
        refine lv_iload hx hb dL_acts_750 (lv_at hl 1 rfl) ?_
        refine lv_i2l hx hb dL_acts_752 rfl ?_
        refine lv_lload hx hb dL_acts_753 (lv_at hl 0 rfl) ?_
        refine W.lcmp hx hb dL_acts_755 ?_
        refine lv_if_gt (tgt := 785) hx hb dL_acts_756 (by decide) (fun h => absurd h (lcmp_le hqx hx60 g5)) (fun b25 => ?_)
        refine lv_aload_n hx hb dL_acts_759 rfl (lv_at hl 6 rfl) ?_
        refine lv_iload hx hb dL_acts_760 (lv_at hl 5 rfl) ?_
        refine zlW (As := [.ref N, .int (nI c1)]) (rest := []) X hml C0 hA0 hG (ctL_stateOf l hl0 D cy rf N (zxb N 0 0) (zxa N) σ_23 (zxd N) δ_23 (nI c1) hP_23.zv (ra_ch hP_23 _)) zmL_stateOf (by decide) m_846 ⟨(Nat.le_of_ble_eq_true rfl), (Nat.le_of_ble_eq_true rfl)⟩ ⟨by show cells + 1 + 1 ≤ 40; omega, by show slots + 6 + 6 ≤ 240; omega⟩ rfl hl.1 rfl (Nat.le_of_ble_eq_true rfl) dL_acts_762 hS (fun q h => h.elim) (fun H locs hG hsz hfr hS => ?_)
        replace hDp := va_at.kept hDp (hfr dp (va_at.lt hDp) (fun z => z))
        rw [ra_st hP_23 hc]
        refine lv_iload hx hb dL_acts_765 (lv_at hl 3 rfl) ?_
        refine lv_iconst (v := 2) hx hb dL_acts_767 (by decide) ?_
        refine lv_icmp_le (tgt := 776) hx hb dL_acts_768 (by decide) (fun h => absurd h b9) (fun b26 => ?_)
        refine lv_bipush (v := 111) hx hb dL_acts_771 (by decide) ?_
        refine lv_goto (tgt := 778) hx hb dL_acts_773 (by decide) ?_
        refine lv_icmp_ne (tgt := 785) hx hb dL_acts_778 (by decide) (fun h => absurd h (not_not_intro g3)) (fun b27 => ?_)
        refine lv_iconst (v := 1) hx hb dL_acts_781 (by decide) ?_
        refine lv_goto (tgt := 786) hx hb dL_acts_782 (by decide) ?_
        exact zo_z (b := true) hx hb hr hlocks rfl ⟨σ_23, δ_23, μ_23, τ_23, (vup V c1 0), hG, hDp, hP_23.up (by omega) (by omega), RD_up g2 (by decide)⟩ hS (by omega) (by omega) dL_acts_786
set_option maxRecDepth 100000 in
set_option maxHeartbeats 4000000 in
theorem zac_860 (X : zX p m c s args RL cL_acts) (hml : c.maxLocals = 11) (hr : meth.sig.returnType = some .boolean) (hlocks : meth.locks = false) (hl0 : l.stackTraces = false) (hL31 : L < 2 ^ 31) (C0 : zCx s D cy rf N b L xs ak av) (hdp : N + 339 ≤ dp) (hc : c1 < 8) (ha : a1 < 4) (hj : j1 < 6) (hK : K + 8 ≤ 512) (hbb : 36 * bb + 36 ≤ 9999) (hP : zP 4 8 3 K bb V σ δ μ τ) (hG : zSA D cy N (zxb N 0 0) (zxa N) σ (zxd N) δ H) (hDp : zDp D cy dp V H) (hS : va_S (zRD N dp) s.heap H locs) (hl : lv_has ls 11 [(7, .int (zA μ 38 0 c1)), (6, .int (nI j1)), (5, .int (nI a1)), (4, .int (nI c1)), (0, .ref N), (1, .ref b), (2, .int (nI k1)), (3, .ref dp)]) (hcl : cells ≤ 4) (hsl : slots ≤ 24) : W p l e (zrx 10 40 240) s m args below meth c H locs cells slots (MQ below (zqM (some (.int (bI true))) (zAE D cy N dp K bb μ) (zRD N dp)) args s 40 240 (zRD N dp)) (F0 m 860 ls []) := by
  obtain ⟨hx, hb, -, -⟩ := id X
  have hA0 : ∀ q, zRD N dp q → zLA N q := fun q h => zRD_N hdp h
  refine lv_aload_n hx hb dL_acts_860 rfl (lv_at hl 4 rfl) ?_
  refine lv_iconst (v := 1) hx hb dL_acts_861 (by decide) ?_
  refine lv_bipush (v := 7) hx hb dL_acts_862 (by decide) ?_
  refine lv_iload hx hb dL_acts_864 (lv_at hl 1 rfl) ?_
  refine lv_imul hx hb dL_acts_866 ?_
  rw [show (7 * (nI j1) : Int32) = nI (7 * j1) from pk_mul 7 j1]
  refine lv_iadd hx hb dL_acts_867 ?_
  rw [show (1 + (nI (7 * j1)) : Int32) = nI (1 + 7 * j1) from nI_add 1 _]
  refine zlW (As := [.ref N, .int (nI (1 + 7 * j1))]) (rest := []) X hml C0 hA0 hG (ctL_goOn l hl0 D cy rf N (zxb N 0 0) (zxa N) σ (zxd N) δ zu_J (nI (1 + 7 * j1)) hP.zv hP.dc (hP.df (by omega))) zmL_goOn (by decide) m_1023 ⟨(Nat.le_of_ble_eq_true rfl), (Nat.le_of_ble_eq_true rfl)⟩ ⟨by show cells + 1 ≤ 40; omega, by show slots + 6 ≤ 240; omega⟩ rfl hl.1 rfl (Nat.le_of_ble_eq_true rfl) dL_acts_868 hS (fun q h => Or.inl h) (fun H locs hG hsz hfr hS => ?_)
  replace hDp := va_at.kept hDp (hfr dp (va_at.lt hDp) (fun z => by have := zu_ra z; omega))
  obtain ⟨g1, μ_24, τ_24, hP_24, g2⟩ := pf_4 hP (by omega) hbb (x := 1 + 7 * j1) (by omega) (by omega)
  generalize zans (k_ref σ (nI 4) (nI (1 + 7 * j1)) 0 0 0) (k_pr σ (nI 4) (nI (1 + 7 * j1)) 0 0 0) = t_24 at g1 ⊢
  generalize k_nS σ 4 (nI (1 + 7 * j1)) 0 0 0 = σ_24 at hG hP_24
  generalize k_nD σ δ 4 (nI (1 + 7 * j1)) 0 0 0 = δ_24 at hG hP_24
  refine lv_if_le (tgt := 878) hx hb dL_acts_871 (by decide) (fun h => absurd h (Int32.not_le.mpr g1)) (fun b1 => ?_)
  refine lv_iconst (v := 1) hx hb dL_acts_874 (by decide) ?_
  refine lv_goto (tgt := 879) hx hb dL_acts_875 (by decide) ?_
  exact zo_z (b := true) hx hb hr hlocks rfl ⟨σ_24, δ_24, μ_24, τ_24, V, hG, hDp, hP_24.up (by omega) (by omega), RD_up g2 (by decide)⟩ hS (by omega) (by omega) dL_acts_879
end ZAX
