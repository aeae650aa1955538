section ZCS
variable {p : Program} {l : Launch} {e : Env} {s : State} {m : MethodId} {args : Array Value} {below : List Frame} {meth : Method} {c : Code} {H : Heap} {locs : List Loc} {cells slots : Nat} {Q : State → Prop} {ls : Array Slot} {D : va_G} {cy : Nat → ClassId} {rf : Nat → Nat} {b L N : Nat} {xs : Nat → Int32} {i : Int32} {H0 : Heap} {σ ρ δ μ τ : zS} {w : Int64} {v : UInt64}
def zlC (p : Program) (l : Launch) (s : State) (m : MethodId) (c : Code) (args : Array Value) (D : va_G) (cy : Nat → ClassId) (rf : Nat → Nat) (N b L : Nat) (xs : Nat → Int32) (H0 : Heap) : Prop := zX p m c s args RL code ∧ c.maxLocals = 9 ∧ zK D cy s ∧ zE rf (zLA N) s H0 ∧ zNc s ∧ va_X b L xs s H0 ∧ b < H0.size ∧ b < N ∧ l.stackTraces = false
def zlV (N b : Nat) (i : Int32) : List (Nat × Value) := [(5, .int i), (4, .ref (N + 379)), (3, .ref (N + 378)), (2, .ref (zxm N 30 0)), (1, .ref N), (0, .ref b)]
def zlK (p : Program) (l : Launch) (e : Env) (s : State) (m : MethodId) (args : Array Value) (below : List Frame) (meth : Method) (c : Code) (Q : State → Prop) (D : va_G) (cy : Nat → ClassId) (N b : Nat) (i : Int32) (H0 : Heap) (t1 c1 s1 : Nat) : Prop := ∀ (H1 : Heap) (locs1 : List Loc) (ls1 : Array Slot) (σ ρ δ μ τ : zS) (w : Int64) (v : UInt64) (cells slots : Nat), zLH D cy N σ ρ δ μ w v H1 → zsim σ μ τ → ymod μ τ → zhist δ μ τ → zn τ 512 ≤ t1 → va_S (zLA N) H0 H1 locs1 → lv_has ls1 9 [(5, .int i), (4, .ref (N + 379)), (3, .ref (N + 378)), (2, .ref (zxm N 30 0)), (1, .ref N), (0, .ref b)] → cells ≤ c1 → slots ≤ s1 → W p l e room_1 s m args below meth c H1 locs1 cells slots Q (F0 m 2283 ls1 [])
theorem zl_full (his : zhist δ μ τ) (hN : zn τ 512 < 512) : k_full δ = false := by
  obtain ⟨h1, h2, -⟩ := his
  unfold k_full
  rw [h1.1, show (512 : Int32) = nI 512 from rfl, decide_eq_true ((nI_ltI (by omega) (by omega)).mpr (by omega))]
  rfl
theorem rd_fin {F : zS} {x : Int32} (eF : F = zpI μ 838 0 x) (h : zsim σ μ τ) (hm : ymod μ τ) (hH : zhist δ μ τ) : zI F 838 0 = x ∧ zsim σ F τ ∧ ymod F τ ∧ zhist δ F τ := by
  rw [eF]
  obtain ⟨h1, h2, h3⟩ := read_post x h hm hH
  exact ⟨by rw [zI_pI, if_pos ⟨rfl, rfl⟩], h1, h2, h3⟩

set_option maxRecDepth 100000 in
set_option maxHeartbeats 4000000 in
theorem zcs_0 (C : zlC p l s m c args D cy rf N b L xs H0) (hin : ∀ j : Int32, j = 1 ∨ j = 2 ∨ j = 3 ∨ j = 4 → vp_in (i + j) L) (hL : zLH D cy N σ ρ δ μ w v H) (sim : zsim σ μ τ) (mod : ymod μ τ) (his : zhist δ μ τ) (hN : zn τ 512 < 512) (hS : va_S (zLA N) H0 H locs) (hl : lv_has ls 9 [(5, .int i), (4, .ref (N + 379)), (3, .ref (N + 378)), (2, .ref (zxm N 30 0)), (1, .ref N), (0, .ref b)]) (hcs : cells + 2 ≤ 603072 ∧ slots + 12 ≤ 7223402) (kk : zlK p l e s m args below meth c Q D cy N b i H0 (zn τ 512 + 1) (cells + 2) (slots + 12)) : W p l e room_1 s m args below meth c H locs cells slots Q (F0 m 196 ls []) := by
  obtain ⟨X, hml, hK, hE, hNc, hX, hbH, hbN, hl0⟩ := id C
  obtain ⟨hx, hb, -, -⟩ := id X
  have hbA : ¬ zLA N b := fun z => absurd hbN (Nat.not_lt.mpr z)
  have hV := sim.V mod
  have hyV := mod.V
  have hfull := zl_full his hN
  obtain ⟨e838, eP, τ1, ht1, sim1, mod1, his1⟩ := act_post (za_0 mod hN (xs (i + 1).toNatClampNeg) (xs (i + 2).toNatClampNeg)) sim mod his hN
  refine lv_aload_n hx hb dL_law_196 rfl (lv_at hl 4 rfl) ?_
  refine lv_aload_n hx hb dL_law_197 rfl (lv_at hl 5 rfl) ?_
  refine lv_iload hx hb dL_law_198 (lv_at hl 0 rfl) ?_
  refine lv_iconst (v := 1) hx hb dL_law_200 (by decide) ?_
  refine lv_iadd hx hb dL_law_201 ?_
  refine va_sld hx hb hX hbH hbA hS (hin _ (by decide)) dL_law_202 ?_
  refine lv_aload_n hx hb dL_law_203 rfl (lv_at hl 5 rfl) ?_
  refine lv_iload hx hb dL_law_204 (lv_at hl 0 rfl) ?_
  refine lv_iconst (v := 2) hx hb dL_law_206 (by decide) ?_
  refine lv_iadd hx hb dL_law_207 ?_
  refine va_sld hx hb hX hbH hbA hS (hin _ (by decide)) dL_law_208 ?_
  refine lv_aload_n hx hb dL_law_209 rfl (lv_at hl 2 rfl) ?_
  refine zlW (As := [.ref N, .int (xs (i + 1).toNatClampNeg), .int (xs (i + 2).toNatClampNeg), .ref (N + 378)]) (rest := []) X hml hK hE hNc hL (ctL_addRigger l hl0 D cy rf N (zxb N 0 0) (zxa N) σ (zxd N) δ zu_J (N + 378) w zu_ob (xs (i + 1).toNatClampNeg) (xs (i + 2).toNatClampNeg) hV his.1 hfull) zmL_addRigger (by decide) m_642 ⟨Nat.le_of_ble_eq_true rfl, Nat.le_of_ble_eq_true rfl⟩ ⟨by show _ ≤ 603072; omega, by show _ ≤ 7223402; omega⟩ rfl hl.1 rfl (Nat.le_of_ble_eq_true rfl) dL_law_210 hS (fun H locs hL hS => ?_)
  refine lv_istore (lv' := [(6, .int (zkc [2, 4] (k_ref σ (nI 0) (xs (i + 1).toNatClampNeg) (xs (i + 2).toNatClampNeg) 0 0))), (5, .int i), (4, .ref (N + 379)), (3, .ref (N + 378)), (2, .ref (zxm N 30 0)), (1, .ref N), (0, .ref b)]) hx hb dL_law_213 hl (by decide) rfl (fun ls hl => ?_)
  refine lv_aload_n hx hb dL_law_215 rfl (lv_at hl 4 rfl) ?_
  refine lv_aload_n hx hb dL_law_216 rfl (lv_at hl 6 rfl) ?_
  refine lv_iload hx hb dL_law_217 (lv_at hl 1 rfl) ?_
  refine lv_iconst (v := 1) hx hb dL_law_219 (by decide) ?_
  refine lv_iadd hx hb dL_law_220 ?_
  refine va_sld hx hb hX hbH hbA hS (hin _ (by decide)) dL_law_221 ?_
  refine lv_aload_n hx hb dL_law_222 rfl (lv_at hl 6 rfl) ?_
  refine lv_iload hx hb dL_law_223 (lv_at hl 1 rfl) ?_
  refine lv_iconst (v := 2) hx hb dL_law_225 (by decide) ?_
  refine lv_iadd hx hb dL_law_226 ?_
  refine va_sld hx hb hX hbH hbA hS (hin _ (by decide)) dL_law_227 ?_
  refine zlM (As := [.int (xs (i + 1).toNatClampNeg), .int (xs (i + 2).toNatClampNeg)]) (rest := []) X hml hK hL (ctX10_addRigger l D cy (zxm N) μ zu_jm (xs (i + 1).toNatClampNeg) (xs (i + 2).toNatClampNeg) hyV) zmX10_addRigger (by decide) m_1255 ⟨Nat.le_of_ble_eq_true rfl, Nat.le_of_ble_eq_true rfl⟩ ⟨by show _ ≤ 603072; omega, by show _ ≤ 7223402; omega⟩ rfl hl.1 rfl (Nat.le_of_ble_eq_true rfl) dL_law_228 hS (fun H locs hL hS => ?_)
  refine lv_istore (lv' := [(7, .int (r_X10_addRigger μ (xs (i + 1).toNatClampNeg) (xs (i + 2).toNatClampNeg))), (6, .int (zkc [2, 4] (k_ref σ (nI 0) (xs (i + 1).toNatClampNeg) (xs (i + 2).toNatClampNeg) 0 0))), (5, .int i), (4, .ref (N + 379)), (3, .ref (N + 378)), (2, .ref (zxm N 30 0)), (1, .ref N), (0, .ref b)]) hx hb dL_law_231 hl (by decide) rfl (fun ls hl => ?_)
  refine lv_aload_n hx hb dL_law_233 rfl (lv_at hl 5 rfl) ?_
  refine zlT (rest := []) X hml hK hL m_1251 ⟨Nat.le_of_ble_eq_true rfl, Nat.le_of_ble_eq_true rfl⟩ ⟨by show _ ≤ 603072; omega, by show _ ≤ 7223402; omega⟩ hl.1 (Nat.le_of_ble_eq_true rfl) dL_law_234 ?_
  refine lv_iload hx hb dL_law_237 (lv_at hl 1 rfl) ?_
  refine lv_icmp_eq (tgt := 244) hx hb dL_law_239 (by decide) (fun _ => ?_) (fun z => absurd e838 z)
  refine lv_iload hx hb dL_law_244 (lv_at hl 1 rfl) ?_
  refine lv_if_ne (tgt := 261) hx hb dL_law_246 (by decide) (fun _ => ?_) (fun z => ?_)
  · refine lv_goto (tgt := 2283) hx hb dL_law_261 (by decide) ?_
    exact kk _ _ _ _ _ _ _ _ _ _ _ _ hL sim1 mod1 his1 ht1 hS (lv_sub hl [2, 3, 4, 5, 6, 7] rfl) (by omega) (by omega)
  · have h0 := zkc_0 (by decide) z
    have hP := eP h0
    refine lv_aload_n hx hb dL_law_249 rfl (lv_at hl 4 rfl) ?_
    refine lv_iconst (v := 0) hx hb dL_law_250 (by decide) ?_
    refine zlO X hK hL dL_law_251 ?_
    refine lv_iload hx hb dL_law_252 (lv_at hl 0 rfl) ?_
    refine lv_i2l hx hb dL_law_254 rfl ?_
    refine W.lcmp hx hb dL_law_255 ?_
    refine lv_if_eq (tgt := 261) hx hb dL_law_256 (by decide) (fun _ => ?_) (fun z => absurd ((lg_cmp_eq _ _).mpr ((if_pos h0).trans (congrArg Int32.toInt64 hP.symm))) z)
    refine lv_goto (tgt := 2283) hx hb dL_law_261 (by decide) ?_
    exact kk _ _ _ _ _ _ _ _ _ _ _ _ hL sim1 mod1 his1 ht1 hS (lv_sub hl [2, 3, 4, 5, 6, 7] rfl) (by omega) (by omega)
end ZCS
