section ZCS
variable {p : Program} {l : Launch} {e : Env} {s : State} {m : MethodId} {args : Array Value} {below : List Frame} {meth : Method} {c : Code} {H : Heap} {locs : List Loc} {cells slots : Nat} {Q : State → Prop} {ls : Array Slot} {D : va_G} {cy : Nat → ClassId} {rf : Nat → Nat} {b L N : Nat} {xs : Nat → Int32} {i : Int32} {H0 : Heap} {σ ρ δ μ τ : zS} {w : Int64} {v : UInt64}

theorem zlOd {R : Room} {own : String} {cc : ByteArray} {pc : Nat} {rest : List Value} (X : zX p m c s args own cc) (hK : zK D cy s) (hL : zLH D cy N σ ρ δ μ w v H) (hd : decode cc pc = .ok (.daload, 1))
    (kk : W p l e R s m args below meth c H locs cells slots Q (F0 m (pc + 1) ls (.double v :: rest))) : W p l e R s m args below meth c H locs cells slots Q (F0 m pc ls (.int 0 :: .ref (N + 379) :: rest)) := by
  obtain ⟨f, e0, hat⟩ := hL.2.2.2
  refine W.dald (v := .double v) X.1 X.2.1 hat ((hK.2 6 _ rfl).1 1 (fun j => .double (f j))) (fun q => by cases q) (by show ¬ ((0 : Int32) < 0 ∨ (arrV _ _ _).slots.size ≤ _); rw [arrV_size]; exact (by decide : ¬ ((0 : Int32) < 0 ∨ 1 ≤ (0 : Int32).toNatClampNeg))) ?_ rfl rfl hd kk
  rw [← e0]
  rfl
theorem rd_share (sim : zsim σ μ τ) (mod : ymod μ τ) : f_X10_share μ = zpI μ 838 0 (zkc [6] (k_none σ)) ∧ (k_none σ = 0 → y_gs μ = k_gs σ ∧ y_md μ = k_md σ ∧ vf_n64 (FP.f2d (y_gs μ)) ∧ vf_n64 (y_md μ)) := by
  have n2 := sim.1.2.1
  have e1 : k_gs σ = FP.fdiv (FP.i2f (nI (y_gsn μ))) (FP.i2f (zI μ 840 0)) := by
    unfold k_gs y_gsn
    rw [zr_cntD sim mod, n2]
  have e2 : k_md σ = FP.ddiv (FP.i2d (y_mdn μ)) (FP.i2d (zI μ 840 0)) := by
    unfold k_md y_mdn
    rw [zr_sumG sim, n2]
  unfold f_X10_share k_none
  rw [n2]
  by_cases h : zI μ 840 0 = 0
  · rw [if_pos h, if_pos h]
    exact ⟨rfl, fun z => absurd z (by decide)⟩
  · rw [if_neg h, if_neg h]
    refine ⟨rfl, fun _ => ?_⟩
    unfold y_gs y_md
    rw [if_neg h, if_neg h, e1, e2]
    exact ⟨rfl, rfl, zn_fd h, zn_d h⟩

set_option maxRecDepth 100000 in
set_option maxHeartbeats 4000000 in
theorem zcs_31 (C : zlC p l s m c args D cy rf N b L xs H0) (hin : ∀ j : Int32, j = 1 ∨ j = 2 ∨ j = 3 ∨ j = 4 → vp_in (i + j) L) (hL : zLH D cy N σ ρ δ μ w v H) (sim : zsim σ μ τ) (mod : ymod μ τ) (his : zhist δ μ τ) (hN : zn τ 512 < 512) (hS : va_S (zLA N) H0 H locs) (hl : lv_has ls 9 [(5, .int i), (4, .ref (N + 379)), (3, .ref (N + 378)), (2, .ref (zxm N 30 0)), (1, .ref N), (0, .ref b)]) (hcs : cells + 2 ≤ 603072 ∧ slots + 12 ≤ 7223402) (kk : zlK p l e s m args below meth c Q D cy N b i H0 (zn τ 512 + 1) (cells + 2) (slots + 12)) : W p l e room_1 s m args below meth c H locs cells slots Q (F0 m 2139 ls []) := by
  obtain ⟨X, hml, hK, hE, hNc, hX, hbH, hbN, hl0⟩ := id C
  obtain ⟨hx, hb, -, -⟩ := id X
  have hV := sim.V mod
  have hyV := mod.V
  obtain ⟨eF, eP⟩ := rd_share sim mod
  obtain ⟨e838, sim1, mod1, his1⟩ := rd_fin eF sim mod his
  refine lv_aload_n hx hb dL_law_2139 rfl (lv_at hl 4 rfl) ?_
  refine lv_aload hx hb dL_law_2140 (lv_at hl 1 rfl) ?_
  refine zlWd (As := [.ref N, .ref (N + 379)]) (rest := []) X hml hK hE hNc hL (ctL_groundedShare l hl0 D cy rf N (zxb N 0 0) (zxa N) σ (zxd N) δ (N + 379) v zu_od hV) zmL_groundedShare (by decide) m_1061 ⟨Nat.le_of_ble_eq_true rfl, Nat.le_of_ble_eq_true rfl⟩ ⟨by show _ ≤ 603072; omega, by show _ ≤ 7223402; omega⟩ rfl hl.1 rfl (Nat.le_of_ble_eq_true rfl) dL_law_2142 hS (fun H locs hL hS => ?_)
  refine lv_istore (lv' := [(6, .int (zkc [6] (k_none σ))), (5, .int i), (4, .ref (N + 379)), (3, .ref (N + 378)), (2, .ref (zxm N 30 0)), (1, .ref N), (0, .ref b)]) hx hb dL_law_2145 hl (by decide) rfl (fun ls hl => ?_)
  refine lv_aload_n hx hb dL_law_2147 rfl (lv_at hl 4 rfl) ?_
  refine zlM (As := []) (rest := []) X hml hK hL (ctX10_groundedShare l D cy (zxm N) μ zu_jm hyV) zmX10_groundedShare (by decide) m_1475 ⟨Nat.le_of_ble_eq_true rfl, Nat.le_of_ble_eq_true rfl⟩ ⟨by show _ ≤ 603072; omega, by show _ ≤ 7223402; omega⟩ rfl hl.1 rfl (Nat.le_of_ble_eq_true rfl) dL_law_2148 hS (fun H locs hL hS => ?_)
  refine lv_fstore (lv' := [(7, .float (y_gs μ)), (6, .int (zkc [6] (k_none σ))), (5, .int i), (4, .ref (N + 379)), (3, .ref (N + 378)), (2, .ref (zxm N 30 0)), (1, .ref N), (0, .ref b)]) hx hb dL_law_2151 hl (by decide) rfl (fun ls hl => ?_)
  refine lv_aload_n hx hb dL_law_2153 rfl (lv_at hl 5 rfl) ?_
  refine zlT (rest := []) X hml hK hL m_1251 ⟨Nat.le_of_ble_eq_true rfl, Nat.le_of_ble_eq_true rfl⟩ ⟨by show _ ≤ 603072; omega, by show _ ≤ 7223402; omega⟩ hl.1 (Nat.le_of_ble_eq_true rfl) dL_law_2154 ?_
  refine lv_iload hx hb dL_law_2157 (lv_at hl 1 rfl) ?_
  refine lv_icmp_eq (tgt := 2164) hx hb dL_law_2159 (by decide) (fun _ => ?_) (fun z => absurd e838 z)
  refine lv_iload hx hb dL_law_2164 (lv_at hl 1 rfl) ?_
  refine lv_if_ne (tgt := 2202) hx hb dL_law_2166 (by decide) (fun _ => ?_) (fun z => ?_)
  · refine lv_goto (tgt := 2283) hx hb dL_law_2202 (by decide) ?_
    exact kk _ _ _ _ _ _ _ _ _ _ _ _ hL sim1 mod1 his1 (Nat.le_succ _) hS (lv_sub hl [2, 3, 4, 5, 6, 7] rfl) (by omega) (by omega)
  · have h0 := zkc_0 (by decide) z
    obtain ⟨q1, q2, q3, q4⟩ := eP h0
    refine lv_aload hx hb dL_law_2169 (lv_at hl 3 rfl) ?_
    refine lv_iconst (v := 0) hx hb dL_law_2171 (by decide) ?_
    refine zlOd X hK hL dL_law_2172 ?_
    refine lv_fload hx hb dL_law_2173 (lv_at hl 0 rfl) ?_
    refine lv_f2d hx hb dL_law_2175 q3 ?_
    refine lv_dcmp hx hb dL_law_2176 ?_
    rw [if_pos h0, ← q1]
    refine lv_if_eq (tgt := 2202) hx hb dL_law_2177 (by decide) (fun _ => ?_) (fun z => absurd (zn_c q3) z)
    refine lv_goto (tgt := 2283) hx hb dL_law_2202 (by decide) ?_
    exact kk _ _ _ _ _ _ _ _ _ _ _ _ hL sim1 mod1 his1 (Nat.le_succ _) hS (lv_sub hl [2, 3, 4, 5, 6, 7] rfl) (by omega) (by omega)
set_option maxRecDepth 100000 in
set_option maxHeartbeats 4000000 in
theorem zcs_32 (C : zlC p l s m c args D cy rf N b L xs H0) (hin : ∀ j : Int32, j = 1 ∨ j = 2 ∨ j = 3 ∨ j = 4 → vp_in (i + j) L) (hL : zLH D cy N σ ρ δ μ w v H) (sim : zsim σ μ τ) (mod : ymod μ τ) (his : zhist δ μ τ) (hN : zn τ 512 < 512) (hS : va_S (zLA N) H0 H locs) (hl : lv_has ls 9 [(5, .int i), (4, .ref (N + 379)), (3, .ref (N + 378)), (2, .ref (zxm N 30 0)), (1, .ref N), (0, .ref b)]) (hcs : cells + 2 ≤ 603072 ∧ slots + 12 ≤ 7223402) (kk : zlK p l e s m args below meth c Q D cy N b i H0 (zn τ 512 + 1) (cells + 2) (slots + 12)) : W p l e room_1 s m args below meth c H locs cells slots Q (F0 m 2205 ls []) := by
  obtain ⟨X, hml, hK, hE, hNc, hX, hbH, hbN, hl0⟩ := id C
  obtain ⟨hx, hb, -, -⟩ := id X
  have hV := sim.V mod
  have hyV := mod.V
  obtain ⟨eF, eP⟩ := rd_share sim mod
  obtain ⟨e838, sim1, mod1, his1⟩ := rd_fin eF sim mod his
  refine lv_aload_n hx hb dL_law_2205 rfl (lv_at hl 4 rfl) ?_
  refine lv_aload hx hb dL_law_2206 (lv_at hl 1 rfl) ?_
  refine zlWd (As := [.ref N, .ref (N + 379)]) (rest := []) X hml hK hE hNc hL (ctL_meanDrops l hl0 D cy rf N (zxb N 0 0) (zxa N) σ (zxd N) δ (N + 379) v zu_od hV) zmL_meanDrops (by decide) m_1089 ⟨Nat.le_of_ble_eq_true rfl, Nat.le_of_ble_eq_true rfl⟩ ⟨by show _ ≤ 603072; omega, by show _ ≤ 7223402; omega⟩ rfl hl.1 rfl (Nat.le_of_ble_eq_true rfl) dL_law_2208 hS (fun H locs hL hS => ?_)
  refine lv_istore (lv' := [(6, .int (zkc [6] (k_none σ))), (5, .int i), (4, .ref (N + 379)), (3, .ref (N + 378)), (2, .ref (zxm N 30 0)), (1, .ref N), (0, .ref b)]) hx hb dL_law_2211 hl (by decide) rfl (fun ls hl => ?_)
  refine lv_aload_n hx hb dL_law_2213 rfl (lv_at hl 4 rfl) ?_
  refine zlM (As := []) (rest := []) X hml hK hL (ctX10_meanDrops l D cy (zxm N) μ zu_jm hyV) zmX10_meanDrops (by decide) m_1479 ⟨Nat.le_of_ble_eq_true rfl, Nat.le_of_ble_eq_true rfl⟩ ⟨by show _ ≤ 603072; omega, by show _ ≤ 7223402; omega⟩ rfl hl.1 rfl (Nat.le_of_ble_eq_true rfl) dL_law_2214 hS (fun H locs hL hS => ?_)
  refine lv_dstore (lv' := [(7, .double (y_md μ)), (6, .int (zkc [6] (k_none σ))), (5, .int i), (4, .ref (N + 379)), (3, .ref (N + 378)), (2, .ref (zxm N 30 0)), (1, .ref N), (0, .ref b)]) hx hb dL_law_2217 hl (by decide) rfl (fun ls hl => ?_)
  refine lv_aload_n hx hb dL_law_2219 rfl (lv_at hl 5 rfl) ?_
  refine zlT (rest := []) X hml hK hL m_1251 ⟨Nat.le_of_ble_eq_true rfl, Nat.le_of_ble_eq_true rfl⟩ ⟨by show _ ≤ 603072; omega, by show _ ≤ 7223402; omega⟩ hl.1 (Nat.le_of_ble_eq_true rfl) dL_law_2220 ?_
  refine lv_iload hx hb dL_law_2223 (lv_at hl 1 rfl) ?_
  refine lv_icmp_eq (tgt := 2230) hx hb dL_law_2225 (by decide) (fun _ => ?_) (fun z => absurd e838 z)
  refine lv_iload hx hb dL_law_2230 (lv_at hl 1 rfl) ?_
  refine lv_if_ne (tgt := 2267) hx hb dL_law_2232 (by decide) (fun _ => ?_) (fun z => ?_)
  · refine lv_goto (tgt := 2283) hx hb dL_law_2267 (by decide) ?_
    exact kk _ _ _ _ _ _ _ _ _ _ _ _ hL sim1 mod1 his1 (Nat.le_succ _) hS (lv_sub hl [2, 3, 4, 5, 6, 7] rfl) (by omega) (by omega)
  · have h0 := zkc_0 (by decide) z
    obtain ⟨q1, q2, q3, q4⟩ := eP h0
    refine lv_aload hx hb dL_law_2235 (lv_at hl 3 rfl) ?_
    refine lv_iconst (v := 0) hx hb dL_law_2237 (by decide) ?_
    refine zlOd X hK hL dL_law_2238 ?_
    refine lv_dload hx hb dL_law_2239 (lv_at hl 0 rfl) ?_
    refine lv_dcmp hx hb dL_law_2241 ?_
    rw [if_pos h0, ← q2]
    refine lv_if_eq (tgt := 2267) hx hb dL_law_2242 (by decide) (fun _ => ?_) (fun z => absurd (zn_c q4) z)
    refine lv_goto (tgt := 2283) hx hb dL_law_2267 (by decide) ?_
    exact kk _ _ _ _ _ _ _ _ _ _ _ _ hL sim1 mod1 his1 (Nat.le_succ _) hS (lv_sub hl [2, 3, 4, 5, 6, 7] rfl) (by omega) (by omega)
end ZCS
