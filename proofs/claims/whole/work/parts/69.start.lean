section ZST
variable {p : Program} {l : Launch} {e : Env} {s : State} {m : MethodId} {args : Array Value} {below : List Frame} {meth : Method} {c : Code} {Q : State → Prop} {ls : Array Slot} {b L N : Nat} {xs : Nat → Int32}

set_option maxRecDepth 100000 in
set_option maxHeartbeats 4000000 in
theorem zl_start (hNs : s.heap.size = N) (X : zX p m c s args RL code) (hml : c.maxLocals = 9) (D : va_G) (cy : Nat → ClassId) (rf : Nat → Nat) (hK : zK D cy s) (hP : zCP s) (hE : zE rf (zLA N) s s.heap) (hNc : zNc s) (hX : va_X b L xs s s.heap) (hbH : b < s.heap.size) (hL25 : L ≤ 2560) (hl0 : l.stackTraces = false) (h31 : (∀ (D : va_G) (cy : Nat → ClassId) (rf : Nat → Nat) (i : Int32) (H : Heap) (locs : List Loc) (ls : Array Slot) (σ ρ δ μ τ : zS) (w : Int64) (v : UInt64) (cells slots : Nat), zlC p l s m c args D cy rf N b L xs s.heap → (∀ j : Int32, j = 1 ∨ j = 2 ∨ j = 3 ∨ j = 4 → vp_in (i + j) L) → zLH D cy N σ ρ δ μ w v H → zsim σ μ τ → ymod μ τ → zhist δ μ τ → zn τ 512 < 512 → va_S (zLA N) s.heap H locs → lv_has ls 9 [(5, .int i), (4, .ref (N + 379)), (3, .ref (N + 378)), (2, .ref (zxm N 30 0)), (1, .ref N), (0, .ref b)] → cells + 2 ≤ 603072 ∧ slots + 12 ≤ 7223402 → zlK p l e s m args below meth c Q D cy N b i s.heap (zn τ 512 + 1) (cells + 2) (slots + 12) → W p l e room_1 s m args below meth c H locs cells slots Q (F0 m 2139 ls []))) (h32 : (∀ (D : va_G) (cy : Nat → ClassId) (rf : Nat → Nat) (i : Int32) (H : Heap) (locs : List Loc) (ls : Array Slot) (σ ρ δ μ τ : zS) (w : Int64) (v : UInt64) (cells slots : Nat), zlC p l s m c args D cy rf N b L xs s.heap → (∀ j : Int32, j = 1 ∨ j = 2 ∨ j = 3 ∨ j = 4 → vp_in (i + j) L) → zLH D cy N σ ρ δ μ w v H → zsim σ μ τ → ymod μ τ → zhist δ μ τ → zn τ 512 < 512 → va_S (zLA N) s.heap H locs → lv_has ls 9 [(5, .int i), (4, .ref (N + 379)), (3, .ref (N + 378)), (2, .ref (zxm N 30 0)), (1, .ref N), (0, .ref b)] → cells + 2 ≤ 603072 ∧ slots + 12 ≤ 7223402 → zlK p l e s m args below meth c Q D cy N b i s.heap (zn τ 512 + 1) (cells + 2) (slots + 12) → W p l e room_1 s m args below meth c H locs cells slots Q (F0 m 2205 ls []))) (kx : ∀ (H : Heap) (locs : List Loc) (ls : Array Slot) (cells slots : Nat), va_S (zLA N) s.heap H locs → cells ≤ 1424 → slots ≤ 15144 → W p l e room_1 s m args below meth c H locs cells slots Q (F0 m 2289 ls [])) (hl : lv_has ls 9 [(0, .ref b)]) : W p l e room_1 s m args below meth c s.heap [] 0 0 Q (F0 m 0 ls []) := by
  obtain ⟨hx, hb, -, -⟩ := id X
  have hS : va_S (zLA N) s.heap s.heap [] := va_S.rf
  have hbN : b < N := by omega
  refine zkNO (h := N) (ci := 7) (fs := [.null, .null, .null]) X hK rfl zin7 tyX9 tyX9_ok m_25 m_26 m_1 (by decide) ⟨Nat.le_of_ble_eq_true rfl, Nat.le_of_ble_eq_true rfl⟩ hNs hS dL_law_0 (fun H hn0 hz1 ho1 hS => ?_)
  refine lv_dup hx hb dL_law_3 rfl ?_
  refine zcallC (rest := [.ref N]) X hml hK hP ⟨hn0, hz1⟩ (ctX9_init l D cy N (N + 1) (by omega)) ziX9_init (by decide) m_27 ⟨Nat.le_of_ble_eq_true rfl, Nat.le_of_ble_eq_true rfl⟩ ⟨Nat.le_of_ble_eq_true rfl, Nat.le_of_ble_eq_true rfl⟩ hl.1 (Nat.le_of_ble_eq_true rfl) dL_law_4 hS (fun q hq => by show N ≤ q; rcases hq with h | h <;> omega) (fun H locs hG hsz2 ho hS => ?_)
  obtain ⟨hSS, hsz⟩ := hG
  refine lv_astore_n (lv' := [(1, .ref N), (0, .ref b)]) hx hb dL_law_7 rfl hl (by decide) rfl (fun ls hl => ?_)
  refine zkNO (h := N + 339) (ci := 8) (fs := fsM0) X hK rfl zin8 tyX10 tyX10_ok m_1100 m_1101 m_9 (by decide) ⟨Nat.le_of_ble_eq_true rfl, Nat.le_of_ble_eq_true rfl⟩ (by omega) hS dL_law_8 (fun H hn0 hz1 ho1 hS => ?_)
  have keepSS : ∀ {H H1 : Heap}, zSS D cy N (zxa N) (zS0 510) (zxb N) (zS0 510) (zxd N) (zS0 0) H → (∀ q, q < N + 339 → H1[q]? = H[q]?) → zSS D cy N (zxa N) (zS0 510) (zxb N) (zS0 510) (zxd N) (zS0 0) H1 := fun h hq => ⟨h.1.kept (fun _ => hq _ (by omega)), h.2.1.kept (fun q z => hq q (by have := zu_a z; omega)), h.2.2.1.kept (fun q z => hq q (by have := zu_b z; omega)), h.2.2.2.kept (fun q z => hq q (by have := zu_d z; omega))⟩
  replace hSS := keepSS hSS ho1
  refine lv_dup hx hb dL_law_11 rfl ?_
  refine zcallC (rest := [.ref (N + 339)]) X hml hK hP ⟨hn0, by omega⟩ (ctX10_init l D cy (N + 339) (N + 340) (by omega)) ziX10_init (by decide) m_1102 ⟨Nat.le_of_ble_eq_true rfl, Nat.le_of_ble_eq_true rfl⟩ ⟨Nat.le_of_ble_eq_true rfl, Nat.le_of_ble_eq_true rfl⟩ hl.1 (Nat.le_of_ble_eq_true rfl) dL_law_12 hS (fun q hq => by show N ≤ q; rcases hq with h | h <;> omega) (fun H locs hG hsz2 ho hS => ?_)
  obtain ⟨hWm, hsz⟩ := hG
  replace hSS := keepSS hSS (fun q hq => ho q (by omega) (fun z => by rcases z with h | h <;> omega))
  refine lv_astore_n (lv' := [(2, .ref (zxm N 30 0)), (1, .ref N), (0, .ref b)]) hx hb dL_law_15 rfl hl (by decide) rfl (fun ls hl => ?_)
  refine lv_iconst (v := 1) hx hb dL_law_16 (by decide) ?_
  refine zkNL (h := N + 378) (N := 1) X hK m_1487 (by decide) rfl (by decide) ⟨Nat.le_of_ble_eq_true rfl, Nat.le_of_ble_eq_true rfl⟩ (by omega) hS dL_law_17 (fun H ht1 hz2 ho2 hS => ?_)
  replace hSS := keepSS hSS (fun q hq => ho2 q (by omega))
  replace hWm := hWm.kept (fun q z => ho2 q (by have := zu_m (N := N) z; omega))
  refine lv_astore_n (lv' := [(3, .ref (N + 378)), (2, .ref (zxm N 30 0)), (1, .ref N), (0, .ref b)]) hx hb dL_law_19 rfl hl (by decide) rfl (fun ls hl => ?_)
  refine lv_iconst (v := 1) hx hb dL_law_20 (by decide) ?_
  refine zkND (h := N + 379) (N := 1) X hK m_1488 (by decide) rfl (by decide) ⟨Nat.le_of_ble_eq_true rfl, Nat.le_of_ble_eq_true rfl⟩ (by omega) hS dL_law_21 (fun H ht2 hz3 ho3 hS => ?_)
  replace hSS := keepSS hSS (fun q hq => ho3 q (by omega))
  replace hWm := hWm.kept (fun q z => ho3 q (by have := zu_m (N := N) z; omega))
  replace ht1 := va_at.kept ht1 (ho3 (N + 378) (by omega))
  refine lv_astore (lv' := [(4, .ref (N + 379)), (3, .ref (N + 378)), (2, .ref (zxm N 30 0)), (1, .ref N), (0, .ref b)]) hx hb dL_law_23 hl (by decide) rfl (fun ls hl => ?_)
  refine lv_iconst (v := 0) hx hb dL_law_25 (by decide) ?_
  refine lv_istore (lv' := [(5, .int 0), (4, .ref (N + 379)), (3, .ref (N + 378)), (2, .ref (zxm N 30 0)), (1, .ref N), (0, .ref b)]) hx hb dL_law_26 hl (by decide) rfl (fun ls hl => ?_)
  have C : zlC p l s m c args D cy rf N b L xs s.heap := ⟨X, hml, hK, hE, hNc, hX, hbH, hbN, hl0⟩
  exact zl_loop C hL25 (fun i H locs ls σ ρ δ μ τ w v cells slots => h31 D cy rf i H locs ls σ ρ δ μ τ w v cells slots C) (fun i H locs ls σ ρ δ μ τ w v cells slots => h32 D cy rf i H locs ls σ ρ δ μ τ w v cells slots C) kx 512 0 (by decide) _ _ _ _ _ _ _ zt0 0 0 _ _ ⟨hSS, hWm, ⟨_, rfl, ht1⟩, ⟨_, rfl, ht2⟩⟩ start_loft start_mod (start_hist (by decide)) (Nat.le_refl _) hS hl (by decide) (by decide)
end ZST
