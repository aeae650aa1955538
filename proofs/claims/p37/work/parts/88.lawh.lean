section ZLH
variable {p : Program} {l : Launch} {e : Env} {R : Room} {s : State} {m : MethodId} {args : Array Value} {below : List Frame} {meth : Method} {c : Code} {H : Heap} {locs : List Loc} {cells slots : Nat} {Q : State → Prop} {cc : ByteArray} {pc : Nat} {ls : Array Slot} {rest : List Value} {D : va_G} {cy : Nat → ClassId} {rf : Nat → Nat} {N b L dp pq d idx nL : Nat} {own : String} {xs : Nat → Int32} {ak av : Nat → Nat} {σ δ μ τ σ1 δ1 μ1 τ1 : zS} {K bb K1 bb1 j : Nat} {V V1 : Nat → Int64}
/-! THE LAW ITSELF -/
theorem pm_start : pm 0 0 0 0 0 (fun _ => 0) (zS0 845) :=
  ⟨⟨rfl, rfl, rfl⟩, fun c h => absurd (show c < 0 from h) (Nat.not_lt_zero _), ⟨0, Nat.le_refl _, rfl⟩, fun c h => absurd (show c < 0 from h) (Nat.not_lt_zero _), fun c h => absurd (show c < 0 from h) (Nat.not_lt_zero _), fun c h => absurd (show c < 0 from h) (Nat.not_lt_zero _), fun c _ h => absurd (show c < 0 from h) (Nat.not_lt_zero _), fun c h => absurd (show c < 0 from h) (Nat.not_lt_zero _), ⟨0, Nat.le_refl _, rfl⟩, fun c h => absurd (show c < 0 from h) (Nat.not_lt_zero _)⟩
theorem zP_start : zP 0 0 0 0 0 (fun _ => 0) (zS0 510) (zS0 0) (zS0 845) zt0 := ⟨start_loft, start_mod, start_hist (by decide), Nat.le_refl _, pm_start⟩
/-- the second loft stands -/
def zWb (D : va_G) (cy : Nat → ClassId) (N : Nat) (H : Heap) : Prop := ∃ ρ, zW D cy (zxb N) zsL ρ H
theorem zWb.kp {H1 : Heap} (h : zWb D cy N H) (hq : ∀ q, q < H.size → zrg (zxb N) zsL q → H1[q]? = H[q]?) : zWb D cy N H1 := by
  obtain ⟨ρ, h⟩ := h
  exact ⟨ρ, h.kept (fun q z => hq q (h.lt z) z)⟩
theorem zps {i : Nat} (hi8 : i < 8) {w : Nat → Int32} {x : Int32} {A : Nat → Prop} (X : zX p m c s args own cc) (hK : zK D cy s) (hD : zPk D cy pq w H) (hS : va_S A s.heap H locs) (hA : A pq) (hd : decode cc pc = .ok (.iastore, 1))
    (kk : ∀ (H1 : Heap) (locs1 : List Loc), zPk D cy pq (fun q => if q = i then x else w q) H1 → H1.size = H.size → (∀ q, q ≠ pq → H1[q]? = H[q]?) → va_S A s.heap H1 locs1 → W p l e R s m args below meth c H1 locs1 cells slots Q (F0 m (pc + 1) ls rest)) : W p l e R s m args below meth c H locs cells slots Q (F0 m pc ls (.int x :: .int (nI i) :: .ref pq :: rest)) := by
  have hat : va_at D zcl (pq, .inl (cy 0, 8, .inl w)) H := hD
  have e : (nI i).toNatClampNeg = i := nI_clamp (by omega)
  refine W.iast X.1 X.2.1 hat ((hK.2 0 _ rfl).1 8 (fun j => .int (w j))) (fun q => by cases q) (by show ¬ (nI i < 0 ∨ (arrV _ _ _).slots.size ≤ _); rw [arrV_size]; exact vp_in_nI hi8 (show 8 < 2 ^ 31 by decide)) rfl rfl hd fun H1 e1 z oq => ?_
  refine kk H1 _ ?_ z oq (hS.put z oq hA)
  show H1[pq]? = some (vp_cell _ _)
  rw [e1]
  rw [vp_cell_i, vp_cell_i, arrV_store]
  refine congrArg (fun z => some (arrV (cy 0) 8 z)) (funext fun q => ?_)
  by_cases hq : q = i
  · simp only [updV, hq, e, if_true]
  · simp only [updV, if_neg hq, e]
theorem lpq_st (j : Nat) : (fun q => if q = j then nI (pkm μ j) else lpq μ j q) = lpq μ (j + 1) := funext fun q => by
  unfold lpq
  by_cases h1 : q = j
  · subst h1; rw [if_pos rfl, if_pos (by omega)]
  · rw [if_neg h1]
    by_cases h2 : q < j
    · rw [if_pos h2, if_pos (by omega)]
    · rw [if_neg h2, if_neg (by omega)]
theorem lpq_0 : lpq μ 0 = fun _ => 0 := funext fun q => if_neg (Nat.not_lt_zero q)
theorem lkept {R' C' L' R2 C2 L2 : Nat} (h : zP R' C' L' K bb V σ δ μ τ) (g : zP R2 C2 L2 K1 bb1 V1 σ1 δ1 μ1 τ1) (r : RD 1 μ μ1) : ¬ lg_cmp (zL σ1 511 0) (zL σ 511 0) < 0 := by
  have a : zL σ 511 0 = zL μ 847 0 := h.1.1.2.2.2.2.2.2.2.1
  have a1 : zL σ1 511 0 = zL μ1 847 0 := g.1.1.2.2.2.2.2.2.2.1
  have q := r.2.2.2
  rw [a, a1]
  unfold lg_cmp
  split
  · decide
  · rename_i h1
    split
    · decide
    · rename_i h2
      exact absurd (Int64.le_antisymm (Int64.not_lt.mp h1) q) h2
theorem nI_subN {a b : Nat} (h : b ≤ a) : nI a - nI b = nI (a - b) := by
  have e : nI (a - b) + nI b = nI a := by rw [nI_add]; exact congrArg nI (by omega)
  rw [← e, Int32.add_sub_cancel]
theorem zblindA {A : Nat → Prop} {G : Heap → Prop} (U : State) (g : JFrame) (mk : MethodId) (a : Array Value) (q : zBA D cy rf A G U) : zBA D cy rf A G (U.calling g mk a) := ⟨zK.moved (u := U) (U := U.calling g mk a) (Vm.Alike.refl U.vm) q.1, zE.same (u := U) (U := U.calling g mk a) rfl q.2.1, q.2.2⟩
theorem zpreVa {C : String} {a : Nat} {As : List Value} {A : Nat → Prop} {G : Heap → Prop} (hK : zK D cy s) (hE : zE rf A s H) (hG : G H) (hr : ∃ cell : Cell, H[a]? = some cell ∧ cell.vm.isStatics = false ∧ s.vm.findClass C = some cell.cls) : PreV s H C a (va_Pc (.ref a :: As) (zBA D cy rf A G)) As := ⟨fun a U g mk q => ⟨q.1, zblindA U g mk a q.2⟩, hr, fun U hU hW => ⟨rfl, zK.moved hW.alike hK, by rw [hU]; exact zE.warm hW hE, by rw [hU]; exact hG⟩⟩
/-- the class is asked whether it is sound -/
theorem zlS {R' C' L' : Nat} (X : zX p m c s args own cc) (hml : c.maxLocals = nL) (C0 : zCx s D cy rf N b L xs ak av) (hG : zSA D cy N (zxb N 0 0) (zxa N) σ (zxd N) δ H) (hWb : zWb D cy N H) (hP : zP R' C' L' K bb V σ δ μ τ) (hl : Cond.methodLink own idx yX9_isSound ∈ lw_all) (hR : 8 + 1 ≤ R.frames ∧ 40 * (8 + 1) ≤ R.locals) (hcs : cells + 0 ≤ R.cells ∧ slots + 0 ≤ R.slots) (hls : ls.size = nL) (hrm : (rest.map fun v => v.category).sum ≤ 8) (hd : decode cc pc = .ok (.invokevirtual idx, 3)) (hS : va_S (zLA N) s.heap H locs)
    (kk : ∀ (H1 : Heap) (locs1 : List Loc), zSA D cy N (zxb N 0 0) (zxa N) σ (zxd N) δ H1 → zWb D cy N H1 → H.size ≤ H1.size → (∀ q, q < H.size → ¬ zrg (zxb N) zsL q → H1[q]? = H[q]?) → va_S (zLA N) s.heap H1 locs1 → W p l e R s m args below meth c H1 locs1 cells slots Q (F0 m (pc + 3) ls (.int (bI true) :: rest))) : W p l e R s m args below meth c H locs cells slots Q (F0 m pc ls (.ref N :: rest)) := by
  obtain ⟨ρ, hWb⟩ := hWb
  obtain ⟨g1, g2, g3, g4⟩ := hP.2.2.1
  have hM := ctX9_isSound l D cy rf N (zxa N) σ (zxb N) ρ (zxd N) δ zu_jb zu_hd g1 (g4 ρ).1 (fun k hk => ⟨g3 k hk, (g4 ρ).2.1 k hk⟩) (zk_like hP.1 (g4 ρ).2.2 hP.2.1) hP.zv
  have hE : zE rf (zLA N) s H := C0.2.1.kept (fun a h1 h2 => hS.2.1 a h1 h2)
  have hSS : zSS D cy N (zxa N) σ (zxb N) ρ (zxd N) δ H := ⟨hG.1, hG.2.1, hWb, hG.2.2⟩
  refine zcM (W.runV ⟨X.1, X.2.1, hml, X.2.2.1, X.2.2.2⟩ hM (zcwV X.2.2.2 zmX9_isSound hl hR (by decide)) (zpreVa C0.1 (hE.narrow (fun q h => by have := zu_b h; show N ≤ q; omega)) hSS (zrecv C0.1 hSS.1 rfl)) rfl rfl hls (show Value.ref N :: rest = ([] : List Value).reverse ++ .ref N :: rest from rfl) (lv_room hrm) hd hcs) hS (fun q h => by have := zu_b h; show N ≤ q; omega) (fun H1 locs1 hG1 hsz hk hS1 => kk H1 locs1 ⟨hG1.1, hG1.2.1, hG1.2.2.2⟩ ⟨_, hG1.2.2.1⟩ hsz hk hS1)
theorem zRD_b {q : Nat} (hdp : N + 339 ≤ dp) (h : zRD N dp q) (z : zrg (zxb N) zsL q) : False := by
  have := zu_b z
  rcases h with h | h
  · have := zu_ra h; omega
  · omega
theorem zRD_p (hdp : N + 339 ≤ dp) (hpq : dp < pq) (h : zRD N dp pq) : False := by
  rcases h with h | h
  · have := zu_ra h; omega
  · omega
theorem zmL_acts : zmS yL_acts RL cL_acts 11 (some .boolean) 4 := ⟨m_844, m_0, m_845, rfl, by decide, by decide, by decide +kernel⟩
end ZLH
