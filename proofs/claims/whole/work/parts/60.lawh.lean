section ZLW
variable {p : Program} {l : Launch} {e : Env} {R : Room} {s : State} {m : MethodId} {args : Array Value} {below : List Frame} {meth : Method} {c : Code} {H : Heap} {locs : List Loc} {cells slots : Nat} {Q : State → Prop} {cc : ByteArray} {pc : Nat} {ls : Array Slot} {rest : List Value} {D : va_G} {cy : Nat → ClassId} {rf : Nat → Nat} {own C : String} {idx d n na nL b r mc ms N : Nat} {A A1 A2 : Nat → Prop} {H0 : Heap} {y : MethodName} {code0 : ByteArray} {ret0 : Option FieldType} {As st0 : List Value} {hh : List (Nat × Nat × Nat × Nat)} {σ ρ δ μ σ' δ' μ' : zS} {w w' : Int64} {v v' : UInt64}
/-! THE LAW'S HEAP: the object at N, its two lofts and its diary, the model at N + 339, the long[1] and the double[1] -/
def zxa (N : Nat) : Nat → Nat → Nat := adL (N + 1) (N + 2)
def zxb (N : Nat) : Nat → Nat → Nat := adL (N + 169) (N + 170)
def zxd (N : Nat) : Nat → Nat → Nat := adY (N + 337) (N + 338)
def zxm (N : Nat) : Nat → Nat → Nat := adM (N + 339) (N + 340)
def zLA (N : Nat) : Nat → Prop := fun q => N ≤ q
def zLH (D : va_G) (cy : Nat → ClassId) (N : Nat) (σ ρ δ μ : zS) (w : Int64) (v : UInt64) (H : Heap) : Prop := zSS D cy N (zxa N) σ (zxb N) ρ (zxd N) δ H ∧ zW D cy (zxm N) zsM μ H ∧ zT D cy (N + 378) w H ∧ zTd D cy (N + 379) v H
theorem zu_a {q : Nat} (h : zrg (zxa N) zsL q) : N + 1 ≤ q ∧ q < N + 169 := by
  have := zrg_L h
  omega
theorem zu_b {q : Nat} (h : zrg (zxb N) zsL q) : N + 169 ≤ q ∧ q < N + 337 := by
  have := zrg_L h
  omega
theorem zu_d {q : Nat} (h : zrg (zxd N) zsD q) : N + 337 ≤ q ∧ q < N + 339 := by
  have := zrg_Y h
  omega
theorem zu_m {q : Nat} (h : zrg (zxm N) zsM q) : N + 339 ≤ q ∧ q < N + 378 := by
  have := zrg_M h
  omega
theorem zu_J : zJ N (zxa N) (zxd N) := ⟨zinj_L (by omega), zinj_Y (by omega), fun q h1 h2 => by have := zu_a h1; have := zu_d h2; omega, fun h => by have := zu_a h; omega, fun h => by have := zu_d h; omega⟩
theorem zu_jb : zinj (zxb N) zsL := zinj_L (by omega)
theorem zu_jm : zinj (zxm N) zsM := zinj_M (by omega)
theorem zu_hd : (∀ q, zrg (zxb N) zsL q → ¬ zrg (zxa N) zsL q) ∧ (∀ q, zrg (zxb N) zsL q → ¬ zrg (zxd N) zsD q) ∧ ¬ zrg (zxb N) zsL N := ⟨fun q h1 h2 => by have := zu_a h2; have := zu_b h1; omega, fun q h1 h2 => by have := zu_b h1; have := zu_d h2; omega, fun h => by have := zu_b h; omega⟩
theorem zu_ra {q : Nat} (h : zRA (zxa N) (zxd N) q) : N + 1 ≤ q ∧ q < N + 339 ∧ ¬ (N + 169 ≤ q ∧ q < N + 337) := by
  rcases h with h | h
  · have := zu_a h; omega
  · have := zu_d h; omega
theorem zu_ob : ¬ zRA (zxa N) (zxd N) (N + 378) ∧ N + 378 ≠ N := ⟨fun h => by have := zu_ra h; omega, by omega⟩
theorem zu_od : ¬ zRA (zxa N) (zxd N) (N + 379) ∧ N + 379 ≠ N := ⟨fun h => by have := zu_ra h; omega, by omega⟩
theorem zu_E (hE : zE rf (zLA N) s H0) (hS : va_S (zLA N) H0 H locs) : zE rf (zLA N) s H := hE.kept (fun a h1 h2 => hS.2.1 a h1 h2)
/-- a helper with the long[1] -/
theorem zlW {k : Int32} (X : zX p m c s args own cc) (hml : c.maxLocals = nL) (hK : zK D cy s) (hE : zE rf (zLA N) s H0) (hN : zNc s) (hL : zLH D cy N σ ρ δ μ w v H) (hM : Met l y (zww y code0 n ret0 hh) (zrx d mc ms) (va_Pc As (zBN D cy rf (fun H => zSA D cy N (zxb N 0 0) (zxa N) σ (zxd N) δ H ∧ zT D cy (N + 378) w H))) (zqM (some (.int k)) (fun H => zSA D cy N (zxb N 0 0) (zxa N) σ' (zxd N) δ' H ∧ zT D cy (N + 378) w' H) (zRO (zxa N) (zxd N) (N + 378))) mc ms (zRO (zxa N) (zxd N) (N + 378))) (hm : zmW y C code0 n ret0 hh na) (hn : n ≤ 21) (hl : Cond.methodLink own idx y ∈ lw_all) (hR : d + 1 ≤ R.frames ∧ 40 * (d + 1) ≤ R.locals) (hcs : cells + mc ≤ R.cells ∧ slots + ms ≤ R.slots) (hna : As.length = na) (hls : ls.size = nL) (hst : st0 = As.reverse ++ rest) (hrm : (rest.map fun v => v.category).sum ≤ 8) (hd : decode cc pc = .ok (.invokestatic idx, 3)) (hS : va_S (zLA N) H0 H locs)
    (kk : ∀ (H1 : Heap) (locs1 : List Loc), zLH D cy N σ' ρ δ' μ w' v H1 → va_S (zLA N) H0 H1 locs1 → W p l e R s m args below meth c H1 locs1 (cells + mc) (slots + ms) Q (F0 m (pc + 3) ls (.int k :: rest))) : W p l e R s m args below meth c H locs cells slots Q (F0 m pc ls st0) := by
  obtain ⟨⟨hO, hWa, hWb, hWd⟩, hWm, hT, hTd⟩ := hL
  have hro : ∀ q, zRO (zxa N) (zxd N) (N + 378) q → N + 1 ≤ q ∧ q < N + 379 ∧ ¬ (N + 169 ≤ q ∧ q < N + 337) ∧ ¬ (N + 339 ≤ q ∧ q < N + 378) := fun q h => by
    rcases h with h | h
    · have := zu_ra h; omega
    · omega
  refine zcallW X hml hK (zu_E hE hS) hN ⟨⟨hO, hWa, hWd⟩, hT⟩ hM hm hn hl hR hcs hna hls hst hrm hd hS (fun q h => by have := hro q h; show N ≤ q; omega) (fun H1 locs1 hG hsz hk hS1 => kk H1 locs1 ?_ hS1)
  obtain ⟨⟨hO', hWa', hWd'⟩, hT'⟩ := hG
  refine ⟨⟨hO', hWa', hWb.kept (fun q h => hk q (hWb.lt h) (fun z => ?_)), hWd'⟩, hWm.kept (fun q h => hk q (hWm.lt h) (fun z => ?_)), hT', hTd.kept (fun h => hk _ h (fun z => ?_))⟩
  · have := hro q z; have := zu_b h; omega
  · have := hro q z; have := zu_m h; omega
  · have := hro _ z; omega
/-- a helper with the double[1] -/
theorem zlWd {k : Int32} (X : zX p m c s args own cc) (hml : c.maxLocals = nL) (hK : zK D cy s) (hE : zE rf (zLA N) s H0) (hN : zNc s) (hL : zLH D cy N σ ρ δ μ w v H) (hM : Met l y (zww y code0 n ret0 hh) (zrx d mc ms) (va_Pc As (zBN D cy rf (fun H => zSA D cy N (zxb N 0 0) (zxa N) σ (zxd N) δ H ∧ zTd D cy (N + 379) v H))) (zqM (some (.int k)) (fun H => zSA D cy N (zxb N 0 0) (zxa N) σ' (zxd N) δ' H ∧ zTd D cy (N + 379) v' H) (zRO (zxa N) (zxd N) (N + 379))) mc ms (zRO (zxa N) (zxd N) (N + 379))) (hm : zmW y C code0 n ret0 hh na) (hn : n ≤ 21) (hl : Cond.methodLink own idx y ∈ lw_all) (hR : d + 1 ≤ R.frames ∧ 40 * (d + 1) ≤ R.locals) (hcs : cells + mc ≤ R.cells ∧ slots + ms ≤ R.slots) (hna : As.length = na) (hls : ls.size = nL) (hst : st0 = As.reverse ++ rest) (hrm : (rest.map fun v => v.category).sum ≤ 8) (hd : decode cc pc = .ok (.invokestatic idx, 3)) (hS : va_S (zLA N) H0 H locs)
    (kk : ∀ (H1 : Heap) (locs1 : List Loc), zLH D cy N σ' ρ δ' μ w v' H1 → va_S (zLA N) H0 H1 locs1 → W p l e R s m args below meth c H1 locs1 (cells + mc) (slots + ms) Q (F0 m (pc + 3) ls (.int k :: rest))) : W p l e R s m args below meth c H locs cells slots Q (F0 m pc ls st0) := by
  obtain ⟨⟨hO, hWa, hWb, hWd⟩, hWm, hT, hTd⟩ := hL
  have hro : ∀ q, zRO (zxa N) (zxd N) (N + 379) q → N + 1 ≤ q ∧ q < N + 380 ∧ ¬ (N + 169 ≤ q ∧ q < N + 337) ∧ ¬ (N + 339 ≤ q ∧ q < N + 379) := fun q h => by
    rcases h with h | h
    · have := zu_ra h; omega
    · omega
  refine zcallW X hml hK (zu_E hE hS) hN ⟨⟨hO, hWa, hWd⟩, hTd⟩ hM hm hn hl hR hcs hna hls hst hrm hd hS (fun q h => by have := hro q h; show N ≤ q; omega) (fun H1 locs1 hG hsz hk hS1 => kk H1 locs1 ?_ hS1)
  obtain ⟨⟨hO', hWa', hWd'⟩, hTd'⟩ := hG
  refine ⟨⟨hO', hWa', hWb.kept (fun q h => hk q (hWb.lt h) (fun z => ?_)), hWd'⟩, hWm.kept (fun q h => hk q (hWm.lt h) (fun z => ?_)), hT.kept (fun h => hk _ h (fun z => ?_)), hTd'⟩
  · have := hro q z; have := zu_b h; omega
  · have := hro q z; have := zu_m h; omega
  · have := hro _ z; omega
/-- a call of the model -/
theorem zlM {k : Option Value} (X : zX p m c s args own cc) (hml : c.maxLocals = nL) (hK : zK D cy s) (hL : zLH D cy N σ ρ δ μ w v H) (hM : Met l y (zw y code0 n ret0) (zrm d) (va_Pc (.ref (zxm N 30 0) :: As) (zB D cy (zW D cy (zxm N) zsM μ))) (zqM k (zW D cy (zxm N) zsM μ') (zrg (zxm N) zsM)) 0 0 (zrg (zxm N) zsM)) (hm : zmV y RX10 code0 n ret0 na) (hn : n ≤ 21) (hl : Cond.methodLink own idx y ∈ lw_all) (hR : d + 1 ≤ R.frames ∧ 40 * (d + 1) ≤ R.locals) (hcs : cells ≤ R.cells ∧ slots ≤ R.slots) (hna : As.length = na) (hls : ls.size = nL) (hst : st0 = As.reverse ++ .ref (zxm N 30 0) :: rest) (hrm : (rest.map fun v => v.category).sum ≤ 8) (hd : decode cc pc = .ok (.invokevirtual idx, 3)) (hS : va_S (zLA N) H0 H locs)
    (kk : ∀ (H1 : Heap) (locs1 : List Loc), zLH D cy N σ ρ δ μ' w v H1 → va_S (zLA N) H0 H1 locs1 → W p l e R s m args below meth c H1 locs1 cells slots Q (F0 m (pc + 3) ls (k.toList ++ rest))) : W p l e R s m args below meth c H locs cells slots Q (F0 m pc ls st0) := by
  obtain ⟨⟨hO, hWa, hWb, hWd⟩, hWm, hT, hTd⟩ := hL
  refine zcallMV X hml hK hWm hM hm hn hl (zrecv hK (hWm 30 0 rfl (by decide)) rfl) hR hcs hna hls hst hrm hd hS (fun q h => by have := zu_m h; show N ≤ q; omega) (fun H1 locs1 hG hsz hk hS1 => kk H1 locs1 ?_ hS1)
  refine ⟨⟨hO.kept (fun h => hk _ h (fun z => ?_)), hWa.kept (fun q h => hk q (hWa.lt h) (fun z => ?_)), hWb.kept (fun q h => hk q (hWb.lt h) (fun z => ?_)), hWd.kept (fun q h => hk q (hWd.lt h) (fun z => ?_))⟩, hG, hT.kept (fun h => hk _ h (fun z => ?_)), hTd.kept (fun h => hk _ h (fun z => ?_))⟩
  · have := zu_m z; omega
  · have := zu_m z; have := zu_a h; omega
  · have := zu_m z; have := zu_b h; omega
  · have := zu_m z; have := zu_d h; omega
  · have := zu_m z; omega
  · have := zu_m z; omega
/-- what the model last noted -/
theorem zlT (X : zX p m c s args own cc) (hml : c.maxLocals = nL) (hK : zK D cy s) (hL : zLH D cy N σ ρ δ μ w v H) (hl : Cond.methodLink own idx yX10_thrown ∈ lw_all) (hR : 1 ≤ R.frames ∧ 40 ≤ R.locals) (hcs : cells ≤ R.cells ∧ slots ≤ R.slots) (hls : ls.size = nL) (hrm : (rest.map fun v => v.category).sum ≤ 8) (hd : decode cc pc = .ok (.invokevirtual idx, 3))
    (kk : W p l e R s m args below meth c H locs cells slots Q (F0 m (pc + 3) ls (.int (zI μ 838 0) :: rest))) : W p l e R s m args below meth c H locs cells slots Q (F0 m pc ls (.ref (zxm N 30 0) :: rest)) :=
  zcallRV (As := []) (rest := rest) X hml hK hL.2.1 (ctX10_thrown l D cy (zxm N) μ) zmX10_thrown (by decide) hl (zrecv hK (hL.2.1 30 0 rfl (by decide)) rfl) hR hcs rfl hls rfl hrm hd kk
/-- out[0] -/
theorem zlO (X : zX p m c s args own cc) (hK : zK D cy s) (hL : zLH D cy N σ ρ δ μ w v H) (hd : decode cc pc = .ok (.laload, 1))
    (kk : W p l e R s m args below meth c H locs cells slots Q (F0 m (pc + 1) ls (.long w :: rest))) : W p l e R s m args below meth c H locs cells slots Q (F0 m pc ls (.int 0 :: .ref (N + 378) :: rest)) := by
  obtain ⟨f, e0, hat⟩ := hL.2.2.1
  refine W.lald (v := .long w) X.1 X.2.1 hat ((hK.2 5 _ rfl).1 1 (fun j => .long (f j))) (fun q => by cases q) (by show ¬ ((0 : Int32) < 0 ∨ (arrV _ _ _).slots.size ≤ _); rw [arrV_size]; exact (by decide : ¬ ((0 : Int32) < 0 ∨ 1 ≤ (0 : Int32).toNatClampNeg))) ?_ rfl rfl hd kk
  rw [← e0]
  rfl
theorem zkc_0 {L : List Nat} {r : Nat} (hL : L.length < 10) (h : zkc L r = 0) : r = 0 := by
  by_cases z : r = 0
  · exact z
  · exact absurd h (zkc_ne hL z)
end ZLW
