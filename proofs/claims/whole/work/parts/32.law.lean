/-! THE LAW'S HELPERS: an answer into a row of one cell, or the number of the exception -/
/-- the law's rows of one cell: of longs, of doubles -/
def zT (D : va_G) (cy : Nat → ClassId) (ob : Nat) (v : Int64) (H : Heap) : Prop := ∃ f : Nat → Int64, f 0 = v ∧ va_at D zcl (ob, .inl (cy 5, 1, .inr (.inl f))) H
def zTd (D : va_G) (cy : Nat → ClassId) (ob : Nat) (v : UInt64) (H : Heap) : Prop := ∃ f : Nat → UInt64, f 0 = v ∧ va_at D zcl (ob, .inl (cy 6, 1, .inr (.inr (.inr (.inl f))))) H
theorem zT.kept {D : va_G} {cy : Nat → ClassId} {ob : Nat} {v : Int64} {H H1 : Heap} (h : zT D cy ob v H) (hq : ob < H.size → H1[ob]? = H[ob]?) : zT D cy ob v H1 := by
  obtain ⟨f, h1, h2⟩ := h
  exact ⟨f, h1, va_at.kept h2 (hq (va_at.lt h2))⟩
theorem zTd.kept {D : va_G} {cy : Nat → ClassId} {ob : Nat} {v : UInt64} {H H1 : Heap} (h : zTd D cy ob v H) (hq : ob < H.size → H1[ob]? = H[ob]?) : zTd D cy ob v H1 := by
  obtain ⟨f, h1, h2⟩ := h
  exact ⟨f, h1, va_at.kept h2 (hq (va_at.lt h2))⟩
theorem zT.lt {D : va_G} {cy : Nat → ClassId} {ob : Nat} {v : Int64} {H : Heap} (h : zT D cy ob v H) : ob < H.size := by
  obtain ⟨f, h1, h2⟩ := h
  exact va_at.lt h2
theorem zTd.lt {D : va_G} {cy : Nat → ClassId} {ob : Nat} {v : UInt64} {H : Heap} (h : zTd D cy ob v H) : ob < H.size := by
  obtain ⟨f, h1, h2⟩ := h
  exact va_at.lt h2
/-- the number of a refusal by the order in which a helper catches -/
def zkc (L : List Nat) (r : Nat) : Int32 := if r = 0 then 0 else nI (L.idxOf r + 1)
def bL (b : Bool) : Int64 := if b = true then 1 else 0
/-- of the four exceptions none is another -/
def zNc (U : State) : Prop := ∀ i j : Nat, 1 ≤ i → i ≤ 4 → 1 ≤ j → j ≤ 4 → i ≠ j → va_Nc (zxc i) (zxc j) U
theorem zNc.moved {u U : State} (hvm : u.vm.Alike U.vm) (h : zNc u) : zNc U := fun i j a1 a2 a3 a4 a5 => va_Nc.moved hvm (h i j a1 a2 a3 a4 a5)
def zBN (D : va_G) (cy : Nat → ClassId) (rf : Nat → Nat) (G : Heap → Prop) : State → Prop := fun U => zK D cy U ∧ zE rf (fun _ => False) U U.heap ∧ zNc U ∧ G U.heap
theorem zblindN {D : va_G} {cy : Nat → ClassId} {rf : Nat → Nat} {G : Heap → Prop} (U : State) (g : JFrame) (mk : MethodId) (a : Array Value) (q : zBN D cy rf G U) : zBN D cy rf G (U.calling g mk a) := ⟨zK.moved (u := U) (U := U.calling g mk a) (Vm.Alike.refl U.vm) q.1, zE.same (u := U) (U := U.calling g mk a) rfl q.2.1, zNc.moved (u := U) (U := U.calling g mk a) (Vm.Alike.refl U.vm) q.2.2.1, q.2.2.2⟩
/-- a helper's words -/
def zww (y : MethodName) (code : ByteArray) (n : Nat) (ret : Option FieldType) (hh : List (Nat × Nat × Nat × Nat)) : List Cond := Cond.codeWith y code n ret hh :: lw_all
def zmW (y : MethodName) (C : String) (code : ByteArray) (n : Nat) (ret : Option FieldType) (hh : List (Nat × Nat × Nat × Nat)) (na : Nat) : Prop := Cond.static y ∈ lw_all ∧ Cond.initialized C ∈ lw_all ∧ Cond.codeWith y code n ret hh ∈ lw_all ∧ y.cls = C ∧ C ≠ "java/lang/invoke/MethodHandle" ∧ C ≠ "java/lang/invoke/VarHandle" ∧ (parseMethodDescriptor y.desc).map (fun d => d.parameters.length) = some na
def zRO (ad adD : Nat → Nat → Nat) (ob : Nat) : Nat → Prop := fun q => zRA ad adD q ∨ q = ob
section ZLW
variable {p : Program} {l : Launch} {e : Env} {R : Room} {s : State} {m : MethodId} {args : Array Value} {below : List Frame} {meth : Method} {c : Code} {H : Heap} {locs : List Loc} {cells slots : Nat} {Q : State → Prop} {cc : ByteArray} {pc : Nat} {ls : Array Slot} {rest : List Value} {D : va_G} {cy : Nat → ClassId} {rf : Nat → Nat} {own C : String} {idx d n na nL b r mc ms mc' ms' : Nat} {A A1 A2 : Nat → Prop} {H0 : Heap} {y : MethodName} {code : ByteArray} {ret : Option FieldType} {G G' : Heap → Prop} {As st0 : List Value} {hh : List (Nat × Nat × Nat × Nat)}
theorem zmetW {av : List Value} {B : State → Prop} {Qc : Array Value → State → Outcome → State → Prop} {free : Addr → Prop} {lv : List (Nat × Value)} (hy : plainName y.cls = true) (hC : y.cls = C) (hn : (lg_sl av).length ≤ n) (hlv : lv_args 0 av = lv)
    (body : ∀ (p : Program) (e : Env) (s : State) (m : MethodId) (below : List Frame) (meth : Method) (c : Code) (ls : Array Slot), zX p m c s av.toArray C code → c.maxLocals = n → meth.sig.returnType = ret → meth.locks = false → c.exceptionTable.toList = tableOf hh → B s → lv_has ls n lv → W p l e (zrx d mc ms) s m av.toArray below meth c s.heap [] 0 0 (MQ below Qc av.toArray s mc ms free) (F0 m 0 ls [])) : Met l y (zww y code n ret hh) (zrx d mc ms) (va_Pc av B) Qc mc ms free := by
  subst hC
  refine va_MetW (cc := code) (maxL := n) (ret := ret) (hh := hh) hy rfl ?_
  intro p e s m args below meth c s₁ Bd hml hv
  obtain ⟨rfl, hB⟩ := hv
  have hts := atoms_spec (ws := zww y code n ret hh) Bd.pre
  have hex := vx_table (x := y) Bd (hts _ List.mem_cons_self)
  have hl := lv_entry av (n := n) hn
  rw [hlv] at hl
  rw [lg_entry_eq]
  exact body p e s m below meth c _ ⟨Bd.exec, Bd.bytes, findClass_of_methodNamed Bd.named, fun w h => hts w (List.mem_cons_of_mem _ h)⟩ hml Bd.returns Bd.notSynchronized hex hB hl
theorem zcwW (ht : ∀ w ∈ lw_all, w.before args s = true) (hm : zmW y C code n ret hh na) (hl : Cond.methodLink own idx y ∈ lw_all) (hR : d + 1 ≤ R.frames ∧ 40 * (d + 1) ≤ R.locals) (hn : n ≤ 21) : vx_CSW R s args own idx y code n ret hh (zww y code n ret hh) (zrx d mc ms) mc ms na := by
  obtain ⟨h1, h3, h4, rfl, h6, h7, h8⟩ := hm
  refine ⟨⟨rfl, rfl, hR.1, ?_, pay_in ht (fun w hw => ?_), List.mem_cons_self⟩, ht _ h4, ht _ h3, ⟨h6, h7⟩, fun sig h => ?_, ht _ hl, ht _ h1⟩
  · show 8 + (n + 11) + 40 * d ≤ R.locals
    omega
  · rcases List.mem_cons.mp hw with rfl | hw
    · exact ⟨h4, lw_good h4⟩
    · exact ⟨hw, lw_good hw⟩
  · rw [h] at h8
    exact (Option.some.inj h8).symm
theorem zpreSn (hK : zK D cy s) (hE : zE rf A s H) (hN : zNc s) (hG : G H) : PreS s H (va_Pc As (zBN D cy rf G)) As := ⟨fun a U g mk q => ⟨q.1, zblindN U g mk a q.2⟩, fun U hU hW => ⟨rfl, zK.moved hW.alike hK, by rw [hU]; exact zE.warm hW (zE.narrow hE (fun _ h => h.elim)), zNc.moved hW.alike hN, by rw [hU]; exact hG⟩⟩
/-- a call that makes cells -/
theorem zcMx {v : Option Value} {a : Array Value} {g : JFrame} (hr : va_Run p l e R s m args below meth c H locs cells slots mc ms g rest (zqM v G' A1 a) A1) (hS : va_S A H0 H locs) (hA : ∀ q, A1 q → A q)
    (kk : ∀ (H1 : Heap) (locs1 : List Loc), G' H1 → H.size ≤ H1.size → (∀ q, q < H.size → ¬ A1 q → H1[q]? = H[q]?) → va_S A H0 H1 locs1 → W p l e R s m args below meth c H1 locs1 (cells + mc) (slots + ms) Q { g with pc := g.pc + 3, stack := v.toList ++ rest }) : W p l e R s m args below meth c H locs cells slots Q g := by
  intro T hT X
  obtain ⟨v', st₀, t, T', L, h0, X', hL, e1, -, ⟨hv, hG, hz, hk⟩, st⟩ := hr T hT X
  cases hv
  rw [h0] at hz hk
  have hz' : H.size ≤ T'.heap.size := by rw [e1]; exact hz
  have hk' : ∀ q, q < H.size → ¬ A1 q → T'.heap[q]? = H[q]? := fun q h1 h2 => by rw [e1]; exact hk q h1 h2
  obtain ⟨t2, a1, b1⟩ := kk T'.heap (locs ++ L) (by rw [e1]; exact hG) hz' hk'
    ⟨Nat.le_trans hS.1 hz', fun q h1 h2 => (hk' q (Nat.lt_of_lt_of_le h1 hS.1) (fun z => h2 (hA q z))).trans (hS.2.1 q h1 h2), fun q hq => by
      rcases List.mem_append.mp hq with h | h
      · exact hS.2.2 q h
      · exact hA _ (hL q h)⟩ T' rfl X'
  exact ⟨t2, st t2 a1, b1⟩
/-- the law calls a helper -/
theorem zcallW {v : Option Value} {rest : List Value} (X : zX p m c s args own cc) (hml : c.maxLocals = nL) (hK : zK D cy s) (hE : zE rf A2 s H) (hN : zNc s) (hG : G H) (hM : Met l y (zww y code n ret hh) (zrx d mc ms) (va_Pc As (zBN D cy rf G)) (zqM v G' A1) mc ms A1) (hm : zmW y C code n ret hh na) (hn : n ≤ 21) (hl : Cond.methodLink own idx y ∈ lw_all) (hR : d + 1 ≤ R.frames ∧ 40 * (d + 1) ≤ R.locals) (hcs : cells + mc ≤ R.cells ∧ slots + ms ≤ R.slots) (hna : As.length = na) (hls : ls.size = nL) (hst : st0 = As.reverse ++ rest) (hrm : (rest.map fun v => v.category).sum ≤ 8) (hd : decode cc pc = .ok (.invokestatic idx, 3)) (hS : va_S A H0 H locs) (hA : ∀ q, A1 q → A q)
    (kk : ∀ (H1 : Heap) (locs1 : List Loc), G' H1 → H.size ≤ H1.size → (∀ q, q < H.size → ¬ A1 q → H1[q]? = H[q]?) → va_S A H0 H1 locs1 → W p l e R s m args below meth c H1 locs1 (cells + mc) (slots + ms) Q (F0 m (pc + 3) ls (v.toList ++ rest))) : W p l e R s m args below meth c H locs cells slots Q (F0 m pc ls st0) :=
  zcMx (vx_runSW ⟨X.1, X.2.1, hml, X.2.2.1, X.2.2.2⟩ hM (zcwW X.2.2.2 hm hl hR hn) (zpreSn hK hE hN hG) rfl hna hls hst (lv_room hrm) hd hcs) hS hA kk
/-- a helper's call of the class, what is thrown left to its handlers -/
theorem zcallCV {v : Option Value} {rest : List Value} (X : zX p m c s args own cc) (hml : c.maxLocals = nL) (hK : zK D cy s) (hE : zE rf A2 s H) (hG : G H) (hM : vx_Met l y (zw y code n ret) (zrx d mc ms) (va_Pc (.ref b :: As) (zBE D cy rf G)) (zxQ r v G' A1) (zxC r) mc ms A1) (hm : zmV y C code n ret na) (hn : n ≤ 21) (hl : Cond.methodLink own idx y ∈ lw_all) (hr : ∃ cell : Cell, H[b]? = some cell ∧ cell.vm.isStatics = false ∧ s.vm.findClass C = some cell.cls) (hR : d + 1 ≤ R.frames ∧ 40 * (d + 1) ≤ R.locals) (hcs : cells + mc ≤ R.cells ∧ slots + ms ≤ R.slots) (hna : As.length = na) (hls : ls.size = nL) (hst : st0 = As.reverse ++ .ref b :: rest) (hrm : (rest.map fun v => v.category).sum ≤ 8) (hd : decode cc pc = .ok (.invokevirtual idx, 3)) (hS : va_S A H0 H locs) (hA : ∀ q, A1 q → A q)
    (kx : ∀ (E : String) (ce : Cell) (q9 : Addr) (H1 : Heap) (locs1 : List Loc), r ≠ 0 → E = zxc r → H.size ≤ H1.size → (∀ q, q < H.size → H1[q]? = H[q]?) → va_S A H0 H1 locs1 → H1[q9]? = some ce → ce.vm = .none → s.vm.findClass E = some ce.cls → vx_W p l e R s m args below meth c H1 locs1 (cells + mc) (slots + ms) Q (F0 m pc ls rest) q9)
    (kk : r = 0 → ∀ (H1 : Heap) (locs1 : List Loc), G' H1 → H.size ≤ H1.size → (∀ q, q < H.size → ¬ A1 q → H1[q]? = H[q]?) → va_S A H0 H1 locs1 → W p l e R s m args below meth c H1 locs1 (cells + mc) (slots + ms) Q (F0 m (pc + 3) ls (v.toList ++ rest))) : W p l e R s m args below meth c H locs cells slots Q (F0 m pc ls st0) :=
  zcX (vx_runV ⟨X.1, X.2.1, hml, X.2.2.1, X.2.2.2⟩ hM (zcwVx X.2.2.2 hm hl hR hn) (zpreVe hK hE hG hr) rfl hna hls hst (lv_room hrm) hd hcs) hS hA kx kk
theorem zo_i {v w : Int32} (hx : p.tables.exec = Jvm.exec) (hb : c.code = cc) (hr : meth.sig.returnType = some .int) (hlocks : meth.locks = false) (h : w = v) (hG : G' H) (hS : va_S A s.heap H locs) (h1 : cells ≤ mc) (h2 : slots ≤ ms) (hd : decode cc pc = .ok (.ireturn, 1)) : W p l e R s m args below meth c H locs cells slots (MQ below (zqM (some (.int v)) G' A) args s mc ms A) (F0 m pc ls [.int w]) := by
  subst h
  exact zwid h1 h2 (W.iret (cc := cc) hx hb hr (fun t ht hW => ⟨rfl, by rw [ht]; exact hG, hS.F ht⟩) hS.2.2 hd hlocks)
theorem zoL {ob : Nat} {w x : Int64} (hX : zX p m c s args own cc) (hK : zK D cy s) (hT : zT D cy ob w H) (hS : va_S A H0 H locs) (hA : A ob) (hd : decode cc pc = .ok (.lastore, 1))
    (kk : ∀ (H1 : Heap) (locs1 : List Loc), zT D cy ob x H1 → H1.size = H.size → (∀ q, q ≠ ob → H1[q]? = H[q]?) → va_S A H0 H1 locs1 → W p l e R s m args below meth c H1 locs1 cells slots Q (F0 m (pc + 1) ls rest)) : W p l e R s m args below meth c H locs cells slots Q (F0 m pc ls (.long x :: .int 0 :: .ref ob :: rest)) := by
  obtain ⟨f, -, hat⟩ := hT
  refine W.last hX.1 hX.2.1 hat ((hK.2 5 _ rfl).1 1 (fun j => .long (f j))) (fun q => by cases q) (by show ¬ ((0 : Int32) < 0 ∨ (arrV _ _ _).slots.size ≤ _); rw [arrV_size]; exact (by decide : ¬ ((0 : Int32) < 0 ∨ 1 ≤ (0 : Int32).toNatClampNeg))) rfl rfl hd fun H1 e z oq => ?_
  refine kk H1 _ ⟨vp_updL f (0 : Int32).toNatClampNeg x, rfl, ?_⟩ z oq (hS.put z oq hA)
  show H1[ob]? = some (vp_cell _ _)
  rw [e]
  rw [vp_cell_l, vp_cell_l, arrV_store]
  refine congrArg (fun z => some (arrV (cy 5) 1 z)) (funext fun q => ?_)
  by_cases hq : q = (0 : Int32).toNatClampNeg
  · simp only [updV, vp_updL, hq, if_true]
  · simp only [updV, vp_updL, if_neg hq]
theorem zoD {ob : Nat} {w x : UInt64} (hX : zX p m c s args own cc) (hK : zK D cy s) (hT : zTd D cy ob w H) (hS : va_S A H0 H locs) (hA : A ob) (hd : decode cc pc = .ok (.dastore, 1))
    (kk : ∀ (H1 : Heap) (locs1 : List Loc), zTd D cy ob x H1 → H1.size = H.size → (∀ q, q ≠ ob → H1[q]? = H[q]?) → va_S A H0 H1 locs1 → W p l e R s m args below meth c H1 locs1 cells slots Q (F0 m (pc + 1) ls rest)) : W p l e R s m args below meth c H locs cells slots Q (F0 m pc ls (.double x :: .int 0 :: .ref ob :: rest)) := by
  obtain ⟨f, -, hat⟩ := hT
  refine W.dast hX.1 hX.2.1 hat ((hK.2 6 _ rfl).1 1 (fun j => .double (f j))) (fun q => by cases q) (by show ¬ ((0 : Int32) < 0 ∨ (arrV _ _ _).slots.size ≤ _); rw [arrV_size]; exact (by decide : ¬ ((0 : Int32) < 0 ∨ 1 ≤ (0 : Int32).toNatClampNeg))) rfl rfl hd fun H1 e z oq => ?_
  refine kk H1 _ ⟨vf_upd f (0 : Int32).toNatClampNeg x, rfl, ?_⟩ z oq (hS.put z oq hA)
  show H1[ob]? = some (vp_cell _ _)
  rw [e]
  rw [vp_cell_d, vp_cell_d, arrV_store]
  refine congrArg (fun z => some (arrV (cy 6) 1 z)) (funext fun q => ?_)
  by_cases hq : q = (0 : Int32).toNatClampNeg
  · simp only [updV, vf_upd, hq, if_true]
  · simp only [updV, vf_upd, if_neg hq]
end ZLW
def k_nS (σ : zS) (n : Nat) (w1 w2 w3 w4 : Int32) : zS := if k_ref σ (nI n) w1 w2 w3 w4 = 0 then k_pf σ (nI n) w1 w2 w3 w4 else σ
def k_nD (σ δ : zS) (n : Nat) (w1 w2 w3 w4 : Int32) : zS := if k_ref σ (nI n) w1 w2 w3 w4 = 0 then f_X2_write δ (nI n) w1 w2 w3 w4 else δ
theorem k_nS_0 {σ : zS} {n : Nat} {w1 w2 w3 w4 : Int32} (h : k_ref σ (nI n) w1 w2 w3 w4 = 0) : k_nS σ n w1 w2 w3 w4 = k_pf σ (nI n) w1 w2 w3 w4 := if_pos h
theorem k_nS_1 {σ : zS} {n : Nat} {w1 w2 w3 w4 : Int32} (h : k_ref σ (nI n) w1 w2 w3 w4 ≠ 0) : k_nS σ n w1 w2 w3 w4 = σ := if_neg h
theorem k_nD_0 {σ δ : zS} {n : Nat} {w1 w2 w3 w4 : Int32} (h : k_ref σ (nI n) w1 w2 w3 w4 = 0) : k_nD σ δ n w1 w2 w3 w4 = f_X2_write δ (nI n) w1 w2 w3 w4 := if_pos h
theorem k_nD_1 {σ δ : zS} {n : Nat} {w1 w2 w3 w4 : Int32} (h : k_ref σ (nI n) w1 w2 w3 w4 ≠ 0) : k_nD σ δ n w1 w2 w3 w4 = δ := if_neg h
theorem zite {c : Prop} [Decidable c] {P : Nat → Prop} {a b : Nat} (h1 : P a) (h2 : P b) : P (if c then a else b) := by
  by_cases h : c
  · rw [if_pos h]; exact h1
  · rw [if_neg h]; exact h2
def zte (a b h k : Nat) : ExceptionTableEntry := ⟨a, b, h, k⟩
theorem zr_0 (σ : zS) (w1 w2 w3 w4 : Int32) : k_ref σ (nI 0) w1 w2 w3 w4 = 0 ∨ k_ref σ (nI 0) w1 w2 w3 w4 = 2 ∨ k_ref σ (nI 0) w1 w2 w3 w4 = 4 := by
  rw [show nI 0 = 0 from rfl, k_ref_0]
  suffices h : (fun r : Nat => r = 0 ∨ r = 2 ∨ r = 4) (r_X8_refusalOf_0 σ w1 w2 w3 w4) from h
  unfold r_X8_refusalOf_0 r_X8_ofAddRigger
  repeat' (first | refine zite (P := fun r : Nat => r = 0 ∨ r = 2 ∨ r = 4) ?_ ?_ | exact (by decide))
theorem zmL_addRigger : zmW yL_addRigger RL cL_addRigger 5 (some .int) [(0, 10, 13, 13), (0, 10, 17, 15)] 4 := ⟨m_643, m_0, m_644, rfl, by decide, by decide, by decide +kernel⟩
set_option maxRecDepth 100000 in
set_option maxHeartbeats 4000000 in
theorem ctL_addRigger (l : Launch) (hl0 : l.stackTraces = false) (D : va_G) (cy : Nat → ClassId) (rf : Nat → Nat) (sb ag : Nat) (ad : Nat → Nat → Nat) (σ : zS) (adD : Nat → Nat → Nat) (δ : zS) (hJ : zJ sb ad adD) (ob : Nat) (w0 : Int64) (hob : ¬ zRA ad adD ob ∧ ob ≠ sb) (w1 : Int32) (w2 : Int32) (hV : zV σ) (hc : zbd δ 200 512) (hfull : k_full δ = false) : Met l yL_addRigger (zww yL_addRigger cL_addRigger 5 (some .int) [(0, 10, 13, 13), (0, 10, 17, 15)]) (zrx 9 1 6) (va_Pc [.ref sb, .int w1, .int w2, .ref ob] (zBN D cy rf (fun H => zSA D cy sb ag ad σ adD δ H ∧ zT D cy ob w0 H))) (zqM (some (.int (zkc [2, 4] (k_ref σ (nI 0) w1 w2 0 0)))) (fun H => zSA D cy sb ag ad (k_nS σ 0 w1 w2 0 0) adD (k_nD σ δ 0 w1 w2 0 0) H ∧ zT D cy ob (if k_ref σ (nI 0) w1 w2 0 0 = 0 then (k_pr σ (nI 0) w1 w2 0 0).toInt64 else w0) H) (zRO ad adD ob)) 1 6 (zRO ad adD ob) := by
  refine zmetW (by decide) rfl (Nat.le_of_ble_eq_true rfl) rfl (fun p e s m below meth c ls X hml hr hlocks hex hv hl => ?_)
  obtain ⟨hK, hE, hN, ⟨hO, hW, hWD⟩, hT⟩ := hv
  obtain ⟨hx, hb, -, -⟩ := id X
  have hl : lv_has ls 5 [(0, .ref sb), (1, .int w1), (2, .int w2), (3, .ref ob)] := hl
  have hS : va_S (zRO ad adD ob) s.heap s.heap [] := va_S.rf
  refine lv_aload_n hx hb dL_addRigger_0 rfl (lv_at hl 3 rfl) ?_
  refine lv_iconst (v := 0) hx hb dL_addRigger_1 (by decide) ?_
  refine lv_aload_n hx hb dL_addRigger_2 rfl (lv_at hl 0 rfl) ?_
  refine lv_iload_n hx hb dL_addRigger_3 rfl (lv_at hl 1 rfl) ?_
  refine lv_iload_n hx hb dL_addRigger_4 rfl (lv_at hl 2 rfl) ?_
  refine zcallCV (As := [.int w1, .int w2]) (rest := [.int 0, .ref ob]) X hml hK hE ⟨hO, hW, hWD⟩ (ctX9_addRigger l hl0 D cy rf sb ag ad σ adD δ hJ w1 w2 hV hc hfull) zmX9_addRigger (by decide) m_647 (zrecv hK hO rfl) ⟨(Nat.le_of_ble_eq_true rfl), (Nat.le_of_ble_eq_true rfl)⟩ ⟨(Nat.le_of_ble_eq_true rfl), (Nat.le_of_ble_eq_true rfl)⟩ rfl hl.1 rfl (Nat.le_of_ble_eq_true rfl) dL_addRigger_5 hS (fun _ h => Or.inl h) (fun E ce q9 H locs hr0 hE0 hsz hfr hS hce hcv hcl => ?_) (fun h0 H locs hG9 hsz hfr hS => ?_)
  · replace hO := zO.kept hO (fun hq => hfr _ hq)
    replace hW := zW.kept hW (fun q hq => hfr q (hW.lt hq))
    replace hWD := zW.kept hWD (fun q hq => hfr q (hWD.lt hq))
    replace hT := hT.kept (fun hq => hfr _ hq)
    rcases (zr_0 σ w1 w2 0 0) with h0 | h0 | h0
    · exact absurd h0 hr0
    · rw [hE0, h0] at hcl
      refine vx_catch (E := "java/lang/IllegalArgumentException") (name := "java/lang/IllegalArgumentException") X.2.2.1 [] (zte 0 10 13 13) [zte 0 10 17 15] (hex.trans rfl) (fun _ h => nomatch h) (by decide) (by decide) (X.2.2.2 _ m_645) (zcastX (X.2.2.2 _ m_17)) hce hcv hcl (?_ : W p l e _ s m _ below meth c _ _ _ _ _ (F0 m 13 ls [.ref q9]))
      refine lv_astore (lv' := [(4, .ref q9), (0, .ref sb), (1, .int w1), (2, .int w2), (3, .ref ob)]) hx hb dL_addRigger_13 hl (by decide) rfl (fun ls hl => ?_)
      refine lv_iconst (v := 1) hx hb dL_addRigger_15 (by decide) ?_
      exact zo_i hx hb hr hlocks (by rw [h0]; rfl) ⟨by rw [k_nS_1 hr0, k_nD_1 hr0]; exact ⟨hO, hW, hWD⟩, by rw [if_neg hr0]; exact hT⟩ hS (Nat.le_of_ble_eq_true rfl) (Nat.le_of_ble_eq_true rfl) dL_addRigger_16
    · rw [hE0, h0] at hcl
      refine vx_catch (E := "java/lang/IllegalStateException") (name := "java/lang/IllegalStateException") X.2.2.1 [zte 0 10 13 13] (zte 0 10 17 15) [] (hex.trans rfl) (List.forall_mem_cons.mpr ⟨Or.inr ⟨by decide, "java/lang/IllegalArgumentException", X.2.2.2 _ m_645, hN 4 2 (by decide) (by decide) (by decide) (by decide) (by decide)⟩, (fun _ h => nomatch h)⟩) (by decide) (by decide) (X.2.2.2 _ m_646) (zcastX (X.2.2.2 _ m_19)) hce hcv hcl (?_ : W p l e _ s m _ below meth c _ _ _ _ _ (F0 m 17 ls [.ref q9]))
      refine lv_astore (lv' := [(4, .ref q9), (0, .ref sb), (1, .int w1), (2, .int w2), (3, .ref ob)]) hx hb dL_addRigger_17 hl (by decide) rfl (fun ls hl => ?_)
      refine lv_iconst (v := 2) hx hb dL_addRigger_19 (by decide) ?_
      exact zo_i hx hb hr hlocks (by rw [h0]; rfl) ⟨by rw [k_nS_1 hr0, k_nD_1 hr0]; exact ⟨hO, hW, hWD⟩, by rw [if_neg hr0]; exact hT⟩ hS (Nat.le_of_ble_eq_true rfl) (Nat.le_of_ble_eq_true rfl) dL_addRigger_20
  · obtain ⟨hO, hW, hWD⟩ := hG9
    replace hT := hT.kept (fun hq => hfr _ hq hob.1)
    refine lv_i2l hx hb dL_addRigger_8 rfl ?_
    refine zoL X hK hT hS (Or.inr rfl) dL_addRigger_9 (fun H locs hT hz9 hfr9 hS => ?_)
    have hO := zO.kept hO (fun _ => hfr9 sb (Ne.symm hob.2))
    have hW := zW.kept hW (fun q hq => hfr9 q (fun z => hob.1 (Or.inl (by rw [← z]; exact hq))))
    have hWD := zW.kept hWD (fun q hq => hfr9 q (fun z => hob.1 (Or.inr (by rw [← z]; exact hq))))
    refine lv_goto (tgt := 21) hx hb dL_addRigger_10 (by decide) ?_
    refine lv_iconst (v := 0) hx hb dL_addRigger_21 (by decide) ?_
    exact zo_i hx hb hr hlocks (by rw [h0]; rfl) ⟨by rw [k_nS_0 h0, k_nD_0 h0]; exact ⟨hO, hW, hWD⟩, by rw [if_pos h0]; exact hT⟩ hS (Nat.le_of_ble_eq_true rfl) (Nat.le_of_ble_eq_true rfl) dL_addRigger_22
theorem zr_1 (σ : zS) (w1 w2 w3 w4 : Int32) : k_ref σ (nI 1) w1 w2 w3 w4 = 0 ∨ k_ref σ (nI 1) w1 w2 w3 w4 = 1 ∨ k_ref σ (nI 1) w1 w2 w3 w4 = 2 := by
  rw [show nI 1 = 1 from rfl, k_ref_1]
  suffices h : (fun r : Nat => r = 0 ∨ r = 1 ∨ r = 2) (r_X8_refusalOf_1 σ w1 w2 w3 w4) from h
  unfold r_X8_refusalOf_1 r_X8_ofSetLicences
  repeat' (first | refine zite (P := fun r : Nat => r = 0 ∨ r = 1 ∨ r = 2) ?_ ?_ | exact (by decide))
theorem zmL_setLicences : zmW yL_setLicences RL cL_setLicences 6 (some .int) [(0, 12, 15, 21), (0, 12, 19, 13)] 5 := ⟨m_794, m_0, m_795, rfl, by decide, by decide, by decide +kernel⟩
set_option maxRecDepth 100000 in
set_option maxHeartbeats 4000000 in
theorem ctL_setLicences (l : Launch) (hl0 : l.stackTraces = false) (D : va_G) (cy : Nat → ClassId) (rf : Nat → Nat) (sb ag : Nat) (ad : Nat → Nat → Nat) (σ : zS) (adD : Nat → Nat → Nat) (δ : zS) (hJ : zJ sb ad adD) (ob : Nat) (w0 : Int64) (hob : ¬ zRA ad adD ob ∧ ob ≠ sb) (w1 : Int32) (w2 : Int32) (w3 : Int32) (hV : zV σ) (hc : zbd δ 200 512) (hfull : k_full δ = false) : Met l yL_setLicences (zww yL_setLicences cL_setLicences 6 (some .int) [(0, 12, 15, 21), (0, 12, 19, 13)]) (zrx 9 1 6) (va_Pc [.ref sb, .int w1, .int w2, .int w3, .ref ob] (zBN D cy rf (fun H => zSA D cy sb ag ad σ adD δ H ∧ zT D cy ob w0 H))) (zqM (some (.int (zkc [1, 2] (k_ref σ (nI 1) w1 w2 w3 0)))) (fun H => zSA D cy sb ag ad (k_nS σ 1 w1 w2 w3 0) adD (k_nD σ δ 1 w1 w2 w3 0) H ∧ zT D cy ob (if k_ref σ (nI 1) w1 w2 w3 0 = 0 then (k_pr σ (nI 1) w1 w2 w3 0).toInt64 else w0) H) (zRO ad adD ob)) 1 6 (zRO ad adD ob) := by
  refine zmetW (by decide) rfl (Nat.le_of_ble_eq_true rfl) rfl (fun p e s m below meth c ls X hml hr hlocks hex hv hl => ?_)
  obtain ⟨hK, hE, hN, ⟨hO, hW, hWD⟩, hT⟩ := hv
  obtain ⟨hx, hb, -, -⟩ := id X
  have hl : lv_has ls 6 [(0, .ref sb), (1, .int w1), (2, .int w2), (3, .int w3), (4, .ref ob)] := hl
  have hS : va_S (zRO ad adD ob) s.heap s.heap [] := va_S.rf
  refine lv_aload hx hb dL_setLicences_0 (lv_at hl 4 rfl) ?_
  refine lv_iconst (v := 0) hx hb dL_setLicences_2 (by decide) ?_
  refine lv_aload_n hx hb dL_setLicences_3 rfl (lv_at hl 0 rfl) ?_
  refine lv_iload_n hx hb dL_setLicences_4 rfl (lv_at hl 1 rfl) ?_
  refine lv_iload_n hx hb dL_setLicences_5 rfl (lv_at hl 2 rfl) ?_
  refine lv_iload_n hx hb dL_setLicences_6 rfl (lv_at hl 3 rfl) ?_
  refine zcallCV (As := [.int w1, .int w2, .int w3]) (rest := [.int 0, .ref ob]) X hml hK hE ⟨hO, hW, hWD⟩ (ctX9_setLicences l hl0 D cy rf sb ag ad σ adD δ hJ w1 w2 w3 hV hc hfull) zmX9_setLicences (by decide) m_817 (zrecv hK hO rfl) ⟨(Nat.le_of_ble_eq_true rfl), (Nat.le_of_ble_eq_true rfl)⟩ ⟨(Nat.le_of_ble_eq_true rfl), (Nat.le_of_ble_eq_true rfl)⟩ rfl hl.1 rfl (Nat.le_of_ble_eq_true rfl) dL_setLicences_7 hS (fun _ h => Or.inl h) (fun E ce q9 H locs hr0 hE0 hsz hfr hS hce hcv hcl => ?_) (fun h0 H locs hG9 hsz hfr hS => ?_)
  · replace hO := zO.kept hO (fun hq => hfr _ hq)
    replace hW := zW.kept hW (fun q hq => hfr q (hW.lt hq))
    replace hWD := zW.kept hWD (fun q hq => hfr q (hWD.lt hq))
    replace hT := hT.kept (fun hq => hfr _ hq)
    rcases (zr_1 σ w1 w2 w3 0) with h0 | h0 | h0
    · exact absurd h0 hr0
    · rw [hE0, h0] at hcl
      refine vx_catch (E := "java/lang/IndexOutOfBoundsException") (name := "java/lang/IndexOutOfBoundsException") X.2.2.1 [] (zte 0 12 15 21) [zte 0 12 19 13] (hex.trans rfl) (fun _ h => nomatch h) (by decide) (by decide) (X.2.2.2 _ m_796) (zcastX (X.2.2.2 _ m_16)) hce hcv hcl (?_ : W p l e _ s m _ below meth c _ _ _ _ _ (F0 m 15 ls [.ref q9]))
      refine lv_astore (lv' := [(5, .ref q9), (0, .ref sb), (1, .int w1), (2, .int w2), (3, .int w3), (4, .ref ob)]) hx hb dL_setLicences_15 hl (by decide) rfl (fun ls hl => ?_)
      refine lv_iconst (v := 1) hx hb dL_setLicences_17 (by decide) ?_
      exact zo_i hx hb hr hlocks (by rw [h0]; rfl) ⟨by rw [k_nS_1 hr0, k_nD_1 hr0]; exact ⟨hO, hW, hWD⟩, by rw [if_neg hr0]; exact hT⟩ hS (Nat.le_of_ble_eq_true rfl) (Nat.le_of_ble_eq_true rfl) dL_setLicences_18
    · rw [hE0, h0] at hcl
      refine vx_catch (E := "java/lang/IllegalArgumentException") (name := "java/lang/IllegalArgumentException") X.2.2.1 [zte 0 12 15 21] (zte 0 12 19 13) [] (hex.trans rfl) (List.forall_mem_cons.mpr ⟨Or.inr ⟨by decide, "java/lang/IndexOutOfBoundsException", X.2.2.2 _ m_796, hN 2 1 (by decide) (by decide) (by decide) (by decide) (by decide)⟩, (fun _ h => nomatch h)⟩) (by decide) (by decide) (X.2.2.2 _ m_645) (zcastX (X.2.2.2 _ m_17)) hce hcv hcl (?_ : W p l e _ s m _ below meth c _ _ _ _ _ (F0 m 19 ls [.ref q9]))
      refine lv_astore (lv' := [(5, .ref q9), (0, .ref sb), (1, .int w1), (2, .int w2), (3, .int w3), (4, .ref ob)]) hx hb dL_setLicences_19 hl (by decide) rfl (fun ls hl => ?_)
      refine lv_iconst (v := 2) hx hb dL_setLicences_21 (by decide) ?_
      exact zo_i hx hb hr hlocks (by rw [h0]; rfl) ⟨by rw [k_nS_1 hr0, k_nD_1 hr0]; exact ⟨hO, hW, hWD⟩, by rw [if_neg hr0]; exact hT⟩ hS (Nat.le_of_ble_eq_true rfl) (Nat.le_of_ble_eq_true rfl) dL_setLicences_22
  · obtain ⟨hO, hW, hWD⟩ := hG9
    replace hT := hT.kept (fun hq => hfr _ hq hob.1)
    refine lv_i2l hx hb dL_setLicences_10 rfl ?_
    refine zoL X hK hT hS (Or.inr rfl) dL_setLicences_11 (fun H locs hT hz9 hfr9 hS => ?_)
    have hO := zO.kept hO (fun _ => hfr9 sb (Ne.symm hob.2))
    have hW := zW.kept hW (fun q hq => hfr9 q (fun z => hob.1 (Or.inl (by rw [← z]; exact hq))))
    have hWD := zW.kept hWD (fun q hq => hfr9 q (fun z => hob.1 (Or.inr (by rw [← z]; exact hq))))
    refine lv_goto (tgt := 23) hx hb dL_setLicences_12 (by decide) ?_
    refine lv_iconst (v := 0) hx hb dL_setLicences_23 (by decide) ?_
    exact zo_i hx hb hr hlocks (by rw [h0]; rfl) ⟨by rw [k_nS_0 h0, k_nD_0 h0]; exact ⟨hO, hW, hWD⟩, by rw [if_pos h0]; exact hT⟩ hS (Nat.le_of_ble_eq_true rfl) (Nat.le_of_ble_eq_true rfl) dL_setLicences_24
theorem zr_2 (σ : zS) (w1 w2 w3 w4 : Int32) : k_ref σ (nI 2) w1 w2 w3 w4 = 0 ∨ k_ref σ (nI 2) w1 w2 w3 w4 = 2 ∨ k_ref σ (nI 2) w1 w2 w3 w4 = 4 := by
  rw [show nI 2 = 2 from rfl, k_ref_2]
  suffices h : (fun r : Nat => r = 0 ∨ r = 2 ∨ r = 4) (r_X8_refusalOf_2 σ w1 w2 w3 w4) from h
  unfold r_X8_refusalOf_2 r_X8_ofAddCanopy
  repeat' (first | refine zite (P := fun r : Nat => r = 0 ∨ r = 2 ∨ r = 4) ?_ ?_ | exact (by decide))
theorem zmL_addCanopy : zmW yL_addCanopy RL cL_addCanopy 7 (some .int) [(0, 14, 17, 13), (0, 14, 21, 15)] 6 := ⟨m_822, m_0, m_823, rfl, by decide, by decide, by decide +kernel⟩
set_option maxRecDepth 100000 in
set_option maxHeartbeats 4000000 in
theorem ctL_addCanopy (l : Launch) (hl0 : l.stackTraces = false) (D : va_G) (cy : Nat → ClassId) (rf : Nat → Nat) (sb ag : Nat) (ad : Nat → Nat → Nat) (σ : zS) (adD : Nat → Nat → Nat) (δ : zS) (hJ : zJ sb ad adD) (ob : Nat) (w0 : Int64) (hob : ¬ zRA ad adD ob ∧ ob ≠ sb) (w1 : Int32) (w2 : Int32) (w3 : Int32) (w4 : Int32) (hV : zV σ) (hc : zbd δ 200 512) (hfull : k_full δ = false) : Met l yL_addCanopy (zww yL_addCanopy cL_addCanopy 7 (some .int) [(0, 14, 17, 13), (0, 14, 21, 15)]) (zrx 9 1 6) (va_Pc [.ref sb, .int w1, .int w2, .int w3, .int w4, .ref ob] (zBN D cy rf (fun H => zSA D cy sb ag ad σ adD δ H ∧ zT D cy ob w0 H))) (zqM (some (.int (zkc [2, 4] (k_ref σ (nI 2) w1 w2 w3 w4)))) (fun H => zSA D cy sb ag ad (k_nS σ 2 w1 w2 w3 w4) adD (k_nD σ δ 2 w1 w2 w3 w4) H ∧ zT D cy ob (if k_ref σ (nI 2) w1 w2 w3 w4 = 0 then (k_pr σ (nI 2) w1 w2 w3 w4).toInt64 else w0) H) (zRO ad adD ob)) 1 6 (zRO ad adD ob) := by
  refine zmetW (by decide) rfl (Nat.le_of_ble_eq_true rfl) rfl (fun p e s m below meth c ls X hml hr hlocks hex hv hl => ?_)
  obtain ⟨hK, hE, hN, ⟨hO, hW, hWD⟩, hT⟩ := hv
  obtain ⟨hx, hb, -, -⟩ := id X
  have hl : lv_has ls 7 [(0, .ref sb), (1, .int w1), (2, .int w2), (3, .int w3), (4, .int w4), (5, .ref ob)] := hl
  have hS : va_S (zRO ad adD ob) s.heap s.heap [] := va_S.rf
  refine lv_aload hx hb dL_addCanopy_0 (lv_at hl 5 rfl) ?_
  refine lv_iconst (v := 0) hx hb dL_addCanopy_2 (by decide) ?_
  refine lv_aload_n hx hb dL_addCanopy_3 rfl (lv_at hl 0 rfl) ?_
  refine lv_iload_n hx hb dL_addCanopy_4 rfl (lv_at hl 1 rfl) ?_
  refine lv_iload_n hx hb dL_addCanopy_5 rfl (lv_at hl 2 rfl) ?_
  refine lv_iload_n hx hb dL_addCanopy_6 rfl (lv_at hl 3 rfl) ?_
  refine lv_iload hx hb dL_addCanopy_7 (lv_at hl 4 rfl) ?_
  refine zcallCV (As := [.int w1, .int w2, .int w3, .int w4]) (rest := [.int 0, .ref ob]) X hml hK hE ⟨hO, hW, hWD⟩ (ctX9_addCanopy l hl0 D cy rf sb ag ad σ adD δ hJ w1 w2 w3 w4 hV hc hfull) zmX9_addCanopy (by decide) m_824 (zrecv hK hO rfl) ⟨(Nat.le_of_ble_eq_true rfl), (Nat.le_of_ble_eq_true rfl)⟩ ⟨(Nat.le_of_ble_eq_true rfl), (Nat.le_of_ble_eq_true rfl)⟩ rfl hl.1 rfl (Nat.le_of_ble_eq_true rfl) dL_addCanopy_9 hS (fun _ h => Or.inl h) (fun E ce q9 H locs hr0 hE0 hsz hfr hS hce hcv hcl => ?_) (fun h0 H locs hG9 hsz hfr hS => ?_)
  · replace hO := zO.kept hO (fun hq => hfr _ hq)
    replace hW := zW.kept hW (fun q hq => hfr q (hW.lt hq))
    replace hWD := zW.kept hWD (fun q hq => hfr q (hWD.lt hq))
    replace hT := hT.kept (fun hq => hfr _ hq)
    rcases (zr_2 σ w1 w2 w3 w4) with h0 | h0 | h0
    · exact absurd h0 hr0
    · rw [hE0, h0] at hcl
      refine vx_catch (E := "java/lang/IllegalArgumentException") (name := "java/lang/IllegalArgumentException") X.2.2.1 [] (zte 0 14 17 13) [zte 0 14 21 15] (hex.trans rfl) (fun _ h => nomatch h) (by decide) (by decide) (X.2.2.2 _ m_645) (zcastX (X.2.2.2 _ m_17)) hce hcv hcl (?_ : W p l e _ s m _ below meth c _ _ _ _ _ (F0 m 17 ls [.ref q9]))
      refine lv_astore (lv' := [(6, .ref q9), (0, .ref sb), (1, .int w1), (2, .int w2), (3, .int w3), (4, .int w4), (5, .ref ob)]) hx hb dL_addCanopy_17 hl (by decide) rfl (fun ls hl => ?_)
      refine lv_iconst (v := 1) hx hb dL_addCanopy_19 (by decide) ?_
      exact zo_i hx hb hr hlocks (by rw [h0]; rfl) ⟨by rw [k_nS_1 hr0, k_nD_1 hr0]; exact ⟨hO, hW, hWD⟩, by rw [if_neg hr0]; exact hT⟩ hS (Nat.le_of_ble_eq_true rfl) (Nat.le_of_ble_eq_true rfl) dL_addCanopy_20
    · rw [hE0, h0] at hcl
      refine vx_catch (E := "java/lang/IllegalStateException") (name := "java/lang/IllegalStateException") X.2.2.1 [zte 0 14 17 13] (zte 0 14 21 15) [] (hex.trans rfl) (List.forall_mem_cons.mpr ⟨Or.inr ⟨by decide, "java/lang/IllegalArgumentException", X.2.2.2 _ m_645, hN 4 2 (by decide) (by decide) (by decide) (by decide) (by decide)⟩, (fun _ h => nomatch h)⟩) (by decide) (by decide) (X.2.2.2 _ m_646) (zcastX (X.2.2.2 _ m_19)) hce hcv hcl (?_ : W p l e _ s m _ below meth c _ _ _ _ _ (F0 m 21 ls [.ref q9]))
      refine lv_astore (lv' := [(6, .ref q9), (0, .ref sb), (1, .int w1), (2, .int w2), (3, .int w3), (4, .int w4), (5, .ref ob)]) hx hb dL_addCanopy_21 hl (by decide) rfl (fun ls hl => ?_)
      refine lv_iconst (v := 2) hx hb dL_addCanopy_23 (by decide) ?_
      exact zo_i hx hb hr hlocks (by rw [h0]; rfl) ⟨by rw [k_nS_1 hr0, k_nD_1 hr0]; exact ⟨hO, hW, hWD⟩, by rw [if_neg hr0]; exact hT⟩ hS (Nat.le_of_ble_eq_true rfl) (Nat.le_of_ble_eq_true rfl) dL_addCanopy_24
  · obtain ⟨hO, hW, hWD⟩ := hG9
    replace hT := hT.kept (fun hq => hfr _ hq hob.1)
    refine lv_i2l hx hb dL_addCanopy_12 rfl ?_
    refine zoL X hK hT hS (Or.inr rfl) dL_addCanopy_13 (fun H locs hT hz9 hfr9 hS => ?_)
    have hO := zO.kept hO (fun _ => hfr9 sb (Ne.symm hob.2))
    have hW := zW.kept hW (fun q hq => hfr9 q (fun z => hob.1 (Or.inl (by rw [← z]; exact hq))))
    have hWD := zW.kept hWD (fun q hq => hfr9 q (fun z => hob.1 (Or.inr (by rw [← z]; exact hq))))
    refine lv_goto (tgt := 25) hx hb dL_addCanopy_14 (by decide) ?_
    refine lv_iconst (v := 0) hx hb dL_addCanopy_25 (by decide) ?_
    exact zo_i hx hb hr hlocks (by rw [h0]; rfl) ⟨by rw [k_nS_0 h0, k_nD_0 h0]; exact ⟨hO, hW, hWD⟩, by rw [if_pos h0]; exact hT⟩ hS (Nat.le_of_ble_eq_true rfl) (Nat.le_of_ble_eq_true rfl) dL_addCanopy_26
theorem zr_3 (σ : zS) (w1 w2 w3 w4 : Int32) : k_ref σ (nI 3) w1 w2 w3 w4 = 0 ∨ k_ref σ (nI 3) w1 w2 w3 w4 = 2 := by
  rw [show nI 3 = 3 from rfl, k_ref_3]
  suffices h : (fun r : Nat => r = 0 ∨ r = 2) (r_X8_refusalOf_3 σ w1 w2 w3 w4) from h
  unfold r_X8_refusalOf_3
  repeat' (first | refine zite (P := fun r : Nat => r = 0 ∨ r = 2) ?_ ?_ | exact (by decide))
theorem zmL_setPeriod : zmW yL_setPeriod RL cL_setPeriod 4 (some .int) [(0, 9, 12, 13)] 3 := ⟨m_829, m_0, m_830, rfl, by decide, by decide, by decide +kernel⟩
set_option maxRecDepth 100000 in
set_option maxHeartbeats 4000000 in
theorem ctL_setPeriod (l : Launch) (hl0 : l.stackTraces = false) (D : va_G) (cy : Nat → ClassId) (rf : Nat → Nat) (sb ag : Nat) (ad : Nat → Nat → Nat) (σ : zS) (adD : Nat → Nat → Nat) (δ : zS) (hJ : zJ sb ad adD) (ob : Nat) (w0 : Int64) (hob : ¬ zRA ad adD ob ∧ ob ≠ sb) (w1 : Int32) (hV : zV σ) (hc : zbd δ 200 512) (hfull : k_full δ = false) : Met l yL_setPeriod (zww yL_setPeriod cL_setPeriod 4 (some .int) [(0, 9, 12, 13)]) (zrx 9 1 6) (va_Pc [.ref sb, .int w1, .ref ob] (zBN D cy rf (fun H => zSA D cy sb ag ad σ adD δ H ∧ zT D cy ob w0 H))) (zqM (some (.int (zkc [2] (k_ref σ (nI 3) w1 0 0 0)))) (fun H => zSA D cy sb ag ad (k_nS σ 3 w1 0 0 0) adD (k_nD σ δ 3 w1 0 0 0) H ∧ zT D cy ob (if k_ref σ (nI 3) w1 0 0 0 = 0 then (k_pr σ (nI 3) w1 0 0 0).toInt64 else w0) H) (zRO ad adD ob)) 1 6 (zRO ad adD ob) := by
  refine zmetW (by decide) rfl (Nat.le_of_ble_eq_true rfl) rfl (fun p e s m below meth c ls X hml hr hlocks hex hv hl => ?_)
  obtain ⟨hK, hE, hN, ⟨hO, hW, hWD⟩, hT⟩ := hv
  obtain ⟨hx, hb, -, -⟩ := id X
  have hl : lv_has ls 4 [(0, .ref sb), (1, .int w1), (2, .ref ob)] := hl
  have hS : va_S (zRO ad adD ob) s.heap s.heap [] := va_S.rf
  refine lv_aload_n hx hb dL_setPeriod_0 rfl (lv_at hl 2 rfl) ?_
  refine lv_iconst (v := 0) hx hb dL_setPeriod_1 (by decide) ?_
  refine lv_aload_n hx hb dL_setPeriod_2 rfl (lv_at hl 0 rfl) ?_
  refine lv_iload_n hx hb dL_setPeriod_3 rfl (lv_at hl 1 rfl) ?_
  refine zcallCV (As := [.int w1]) (rest := [.int 0, .ref ob]) X hml hK hE ⟨hO, hW, hWD⟩ (ctX9_setPeriod l hl0 D cy rf sb ag ad σ adD δ hJ w1 hV hc hfull) zmX9_setPeriod (by decide) m_831 (zrecv hK hO rfl) ⟨(Nat.le_of_ble_eq_true rfl), (Nat.le_of_ble_eq_true rfl)⟩ ⟨(Nat.le_of_ble_eq_true rfl), (Nat.le_of_ble_eq_true rfl)⟩ rfl hl.1 rfl (Nat.le_of_ble_eq_true rfl) dL_setPeriod_4 hS (fun _ h => Or.inl h) (fun E ce q9 H locs hr0 hE0 hsz hfr hS hce hcv hcl => ?_) (fun h0 H locs hG9 hsz hfr hS => ?_)
  · replace hO := zO.kept hO (fun hq => hfr _ hq)
    replace hW := zW.kept hW (fun q hq => hfr q (hW.lt hq))
    replace hWD := zW.kept hWD (fun q hq => hfr q (hWD.lt hq))
    replace hT := hT.kept (fun hq => hfr _ hq)
    rcases (zr_3 σ w1 0 0 0) with h0 | h0
    · exact absurd h0 hr0
    · rw [hE0, h0] at hcl
      refine vx_catch (E := "java/lang/IllegalArgumentException") (name := "java/lang/IllegalArgumentException") X.2.2.1 [] (zte 0 9 12 13) [] (hex.trans rfl) (fun _ h => nomatch h) (by decide) (by decide) (X.2.2.2 _ m_645) (zcastX (X.2.2.2 _ m_17)) hce hcv hcl (?_ : W p l e _ s m _ below meth c _ _ _ _ _ (F0 m 12 ls [.ref q9]))
      refine lv_astore_n (lv' := [(3, .ref q9), (0, .ref sb), (1, .int w1), (2, .ref ob)]) hx hb dL_setPeriod_12 rfl hl (by decide) rfl (fun ls hl => ?_)
      refine lv_iconst (v := 1) hx hb dL_setPeriod_13 (by decide) ?_
      exact zo_i hx hb hr hlocks (by rw [h0]; rfl) ⟨by rw [k_nS_1 hr0, k_nD_1 hr0]; exact ⟨hO, hW, hWD⟩, by rw [if_neg hr0]; exact hT⟩ hS (Nat.le_of_ble_eq_true rfl) (Nat.le_of_ble_eq_true rfl) dL_setPeriod_14
  · obtain ⟨hO, hW, hWD⟩ := hG9
    replace hT := hT.kept (fun hq => hfr _ hq hob.1)
    refine lv_i2l hx hb dL_setPeriod_7 rfl ?_
    refine zoL X hK hT hS (Or.inr rfl) dL_setPeriod_8 (fun H locs hT hz9 hfr9 hS => ?_)
    have hO := zO.kept hO (fun _ => hfr9 sb (Ne.symm hob.2))
    have hW := zW.kept hW (fun q hq => hfr9 q (fun z => hob.1 (Or.inl (by rw [← z]; exact hq))))
    have hWD := zW.kept hWD (fun q hq => hfr9 q (fun z => hob.1 (Or.inr (by rw [← z]; exact hq))))
    refine lv_goto (tgt := 15) hx hb dL_setPeriod_9 (by decide) ?_
    refine lv_iconst (v := 0) hx hb dL_setPeriod_15 (by decide) ?_
    exact zo_i hx hb hr hlocks (by rw [h0]; rfl) ⟨by rw [k_nS_0 h0, k_nD_0 h0]; exact ⟨hO, hW, hWD⟩, by rw [if_pos h0]; exact hT⟩ hS (Nat.le_of_ble_eq_true rfl) (Nat.le_of_ble_eq_true rfl) dL_setPeriod_16
theorem zr_4 (σ : zS) (w1 w2 w3 w4 : Int32) : k_ref σ (nI 4) w1 w2 w3 w4 = 0 ∨ k_ref σ (nI 4) w1 w2 w3 w4 = 2 ∨ k_ref σ (nI 4) w1 w2 w3 w4 = 4 := by
  rw [show nI 4 = 4 from rfl, k_ref_4]
  suffices h : (fun r : Nat => r = 0 ∨ r = 2 ∨ r = 4) (r_X8_refusalOf_4 σ w1 w2 w3 w4) from h
  unfold r_X8_refusalOf_4 r_X8_ofGoOn
  repeat' (first | refine zite (P := fun r : Nat => r = 0 ∨ r = 2 ∨ r = 4) ?_ ?_ | exact (by decide))
theorem zmL_goOn : zmW yL_goOn RL cL_goOn 4 (some .int) [(0, 9, 12, 13), (0, 9, 15, 15)] 3 := ⟨m_836, m_0, m_837, rfl, by decide, by decide, by decide +kernel⟩
set_option maxRecDepth 100000 in
set_option maxHeartbeats 4000000 in
theorem ctL_goOn (l : Launch) (hl0 : l.stackTraces = false) (D : va_G) (cy : Nat → ClassId) (rf : Nat → Nat) (sb ag : Nat) (ad : Nat → Nat → Nat) (σ : zS) (adD : Nat → Nat → Nat) (δ : zS) (hJ : zJ sb ad adD) (ob : Nat) (w0 : Int64) (hob : ¬ zRA ad adD ob ∧ ob ≠ sb) (w1 : Int32) (hV : zV σ) (hc : zbd δ 200 512) (hfull : k_full δ = false) : Met l yL_goOn (zww yL_goOn cL_goOn 4 (some .int) [(0, 9, 12, 13), (0, 9, 15, 15)]) (zrx 9 1 6) (va_Pc [.ref sb, .int w1, .ref ob] (zBN D cy rf (fun H => zSA D cy sb ag ad σ adD δ H ∧ zT D cy ob w0 H))) (zqM (some (.int (zkc [2, 4] (k_ref σ (nI 4) w1 0 0 0)))) (fun H => zSA D cy sb ag ad (k_nS σ 4 w1 0 0 0) adD (k_nD σ δ 4 w1 0 0 0) H ∧ zT D cy ob (if k_ref σ (nI 4) w1 0 0 0 = 0 then (k_pr σ (nI 4) w1 0 0 0).toInt64 else w0) H) (zRO ad adD ob)) 1 6 (zRO ad adD ob) := by
  refine zmetW (by decide) rfl (Nat.le_of_ble_eq_true rfl) rfl (fun p e s m below meth c ls X hml hr hlocks hex hv hl => ?_)
  obtain ⟨hK, hE, hN, ⟨hO, hW, hWD⟩, hT⟩ := hv
  obtain ⟨hx, hb, -, -⟩ := id X
  have hl : lv_has ls 4 [(0, .ref sb), (1, .int w1), (2, .ref ob)] := hl
  have hS : va_S (zRO ad adD ob) s.heap s.heap [] := va_S.rf
  refine lv_aload_n hx hb dL_goOn_0 rfl (lv_at hl 2 rfl) ?_
  refine lv_iconst (v := 0) hx hb dL_goOn_1 (by decide) ?_
  refine lv_aload_n hx hb dL_goOn_2 rfl (lv_at hl 0 rfl) ?_
  refine lv_iload_n hx hb dL_goOn_3 rfl (lv_at hl 1 rfl) ?_
  refine zcallCV (As := [.int w1]) (rest := [.int 0, .ref ob]) X hml hK hE ⟨hO, hW, hWD⟩ (ctX9_goOn l hl0 D cy rf sb ag ad σ adD δ hJ w1 hV hc hfull) zmX9_goOn (by decide) m_838 (zrecv hK hO rfl) ⟨(Nat.le_of_ble_eq_true rfl), (Nat.le_of_ble_eq_true rfl)⟩ ⟨(Nat.le_of_ble_eq_true rfl), (Nat.le_of_ble_eq_true rfl)⟩ rfl hl.1 rfl (Nat.le_of_ble_eq_true rfl) dL_goOn_4 hS (fun _ h => Or.inl h) (fun E ce q9 H locs hr0 hE0 hsz hfr hS hce hcv hcl => ?_) (fun h0 H locs hG9 hsz hfr hS => ?_)
  · replace hO := zO.kept hO (fun hq => hfr _ hq)
    replace hW := zW.kept hW (fun q hq => hfr q (hW.lt hq))
    replace hWD := zW.kept hWD (fun q hq => hfr q (hWD.lt hq))
    replace hT := hT.kept (fun hq => hfr _ hq)
    rcases (zr_4 σ w1 0 0 0) with h0 | h0 | h0
    · exact absurd h0 hr0
    · rw [hE0, h0] at hcl
      refine vx_catch (E := "java/lang/IllegalArgumentException") (name := "java/lang/IllegalArgumentException") X.2.2.1 [] (zte 0 9 12 13) [zte 0 9 15 15] (hex.trans rfl) (fun _ h => nomatch h) (by decide) (by decide) (X.2.2.2 _ m_645) (zcastX (X.2.2.2 _ m_17)) hce hcv hcl (?_ : W p l e _ s m _ below meth c _ _ _ _ _ (F0 m 12 ls [.ref q9]))
      refine lv_astore_n (lv' := [(3, .ref q9), (0, .ref sb), (1, .int w1), (2, .ref ob)]) hx hb dL_goOn_12 rfl hl (by decide) rfl (fun ls hl => ?_)
      refine lv_iconst (v := 1) hx hb dL_goOn_13 (by decide) ?_
      exact zo_i hx hb hr hlocks (by rw [h0]; rfl) ⟨by rw [k_nS_1 hr0, k_nD_1 hr0]; exact ⟨hO, hW, hWD⟩, by rw [if_neg hr0]; exact hT⟩ hS (Nat.le_of_ble_eq_true rfl) (Nat.le_of_ble_eq_true rfl) dL_goOn_14
    · rw [hE0, h0] at hcl
      refine vx_catch (E := "java/lang/IllegalStateException") (name := "java/lang/IllegalStateException") X.2.2.1 [zte 0 9 12 13] (zte 0 9 15 15) [] (hex.trans rfl) (List.forall_mem_cons.mpr ⟨Or.inr ⟨by decide, "java/lang/IllegalArgumentException", X.2.2.2 _ m_645, hN 4 2 (by decide) (by decide) (by decide) (by decide) (by decide)⟩, (fun _ h => nomatch h)⟩) (by decide) (by decide) (X.2.2.2 _ m_646) (zcastX (X.2.2.2 _ m_19)) hce hcv hcl (?_ : W p l e _ s m _ below meth c _ _ _ _ _ (F0 m 15 ls [.ref q9]))
      refine lv_astore_n (lv' := [(3, .ref q9), (0, .ref sb), (1, .int w1), (2, .ref ob)]) hx hb dL_goOn_15 rfl hl (by decide) rfl (fun ls hl => ?_)
      refine lv_iconst (v := 2) hx hb dL_goOn_16 (by decide) ?_
      exact zo_i hx hb hr hlocks (by rw [h0]; rfl) ⟨by rw [k_nS_1 hr0, k_nD_1 hr0]; exact ⟨hO, hW, hWD⟩, by rw [if_neg hr0]; exact hT⟩ hS (Nat.le_of_ble_eq_true rfl) (Nat.le_of_ble_eq_true rfl) dL_goOn_17
  · obtain ⟨hO, hW, hWD⟩ := hG9
    replace hT := hT.kept (fun hq => hfr _ hq hob.1)
    refine lv_i2l hx hb dL_goOn_7 rfl ?_
    refine zoL X hK hT hS (Or.inr rfl) dL_goOn_8 (fun H locs hT hz9 hfr9 hS => ?_)
    have hO := zO.kept hO (fun _ => hfr9 sb (Ne.symm hob.2))
    have hW := zW.kept hW (fun q hq => hfr9 q (fun z => hob.1 (Or.inl (by rw [← z]; exact hq))))
    have hWD := zW.kept hWD (fun q hq => hfr9 q (fun z => hob.1 (Or.inr (by rw [← z]; exact hq))))
    refine lv_goto (tgt := 18) hx hb dL_goOn_9 (by decide) ?_
    refine lv_iconst (v := 0) hx hb dL_goOn_18 (by decide) ?_
    exact zo_i hx hb hr hlocks (by rw [h0]; rfl) ⟨by rw [k_nS_0 h0, k_nD_0 h0]; exact ⟨hO, hW, hWD⟩, by rw [if_pos h0]; exact hT⟩ hS (Nat.le_of_ble_eq_true rfl) (Nat.le_of_ble_eq_true rfl) dL_goOn_19
theorem zr_5 (σ : zS) (w1 w2 w3 w4 : Int32) : k_ref σ (nI 5) w1 w2 w3 w4 = 0 ∨ k_ref σ (nI 5) w1 w2 w3 w4 = 1 ∨ k_ref σ (nI 5) w1 w2 w3 w4 = 2 ∨ k_ref σ (nI 5) w1 w2 w3 w4 = 3 ∨ k_ref σ (nI 5) w1 w2 w3 w4 = 4 := by
  rw [show nI 5 = 5 from rfl, k_ref_5]
  suffices h : (fun r : Nat => r = 0 ∨ r = 1 ∨ r = 2 ∨ r = 3 ∨ r = 4) (r_X8_refusalOf_5 σ w1 w2 w3 w4) from h
  unfold r_X8_refusalOf_5 r_X8_ofHang
  repeat' (first | refine zite (P := fun r : Nat => r = 0 ∨ r = 1 ∨ r = 2 ∨ r = 3 ∨ r = 4) ?_ ?_ | exact (by decide))
theorem zmL_hang : zmW yL_hang RL cL_hang 5 (some .int) [(0, 10, 13, 21), (0, 10, 17, 13), (0, 10, 21, 37), (0, 10, 25, 15)] 4 := ⟨m_843, m_0, m_844, rfl, by decide, by decide, by decide +kernel⟩
set_option maxRecDepth 100000 in
set_option maxHeartbeats 4000000 in
theorem ctL_hang (l : Launch) (hl0 : l.stackTraces = false) (D : va_G) (cy : Nat → ClassId) (rf : Nat → Nat) (sb ag : Nat) (ad : Nat → Nat → Nat) (σ : zS) (adD : Nat → Nat → Nat) (δ : zS) (hJ : zJ sb ad adD) (ob : Nat) (w0 : Int64) (hob : ¬ zRA ad adD ob ∧ ob ≠ sb) (w1 : Int32) (w2 : Int32) (hV : zV σ) (hc : zbd δ 200 512) (hfull : k_full δ = false) : Met l yL_hang (zww yL_hang cL_hang 5 (some .int) [(0, 10, 13, 21), (0, 10, 17, 13), (0, 10, 21, 37), (0, 10, 25, 15)]) (zrx 9 1 6) (va_Pc [.ref sb, .int w1, .int w2, .ref ob] (zBN D cy rf (fun H => zSA D cy sb ag ad σ adD δ H ∧ zT D cy ob w0 H))) (zqM (some (.int (zkc [1, 2, 3, 4] (k_ref σ (nI 5) w1 w2 0 0)))) (fun H => zSA D cy sb ag ad (k_nS σ 5 w1 w2 0 0) adD (k_nD σ δ 5 w1 w2 0 0) H ∧ zT D cy ob (if k_ref σ (nI 5) w1 w2 0 0 = 0 then (k_pr σ (nI 5) w1 w2 0 0).toInt64 else w0) H) (zRO ad adD ob)) 1 6 (zRO ad adD ob) := by
  refine zmetW (by decide) rfl (Nat.le_of_ble_eq_true rfl) rfl (fun p e s m below meth c ls X hml hr hlocks hex hv hl => ?_)
  obtain ⟨hK, hE, hN, ⟨hO, hW, hWD⟩, hT⟩ := hv
  obtain ⟨hx, hb, -, -⟩ := id X
  have hl : lv_has ls 5 [(0, .ref sb), (1, .int w1), (2, .int w2), (3, .ref ob)] := hl
  have hS : va_S (zRO ad adD ob) s.heap s.heap [] := va_S.rf
  refine lv_aload_n hx hb dL_hang_0 rfl (lv_at hl 3 rfl) ?_
  refine lv_iconst (v := 0) hx hb dL_hang_1 (by decide) ?_
  refine lv_aload_n hx hb dL_hang_2 rfl (lv_at hl 0 rfl) ?_
  refine lv_iload_n hx hb dL_hang_3 rfl (lv_at hl 1 rfl) ?_
  refine lv_iload_n hx hb dL_hang_4 rfl (lv_at hl 2 rfl) ?_
  refine zcallCV (As := [.int w1, .int w2]) (rest := [.int 0, .ref ob]) X hml hK hE ⟨hO, hW, hWD⟩ (ctX9_hang l hl0 D cy rf sb ag ad σ adD δ hJ w1 w2 hV hc hfull) zmX9_hang (by decide) m_846 (zrecv hK hO rfl) ⟨(Nat.le_of_ble_eq_true rfl), (Nat.le_of_ble_eq_true rfl)⟩ ⟨(Nat.le_of_ble_eq_true rfl), (Nat.le_of_ble_eq_true rfl)⟩ rfl hl.1 rfl (Nat.le_of_ble_eq_true rfl) dL_hang_5 hS (fun _ h => Or.inl h) (fun E ce q9 H locs hr0 hE0 hsz hfr hS hce hcv hcl => ?_) (fun h0 H locs hG9 hsz hfr hS => ?_)
  · replace hO := zO.kept hO (fun hq => hfr _ hq)
    replace hW := zW.kept hW (fun q hq => hfr q (hW.lt hq))
    replace hWD := zW.kept hWD (fun q hq => hfr q (hWD.lt hq))
    replace hT := hT.kept (fun hq => hfr _ hq)
    rcases (zr_5 σ w1 w2 0 0) with h0 | h0 | h0 | h0 | h0
    · exact absurd h0 hr0
    · rw [hE0, h0] at hcl
      refine vx_catch (E := "java/lang/IndexOutOfBoundsException") (name := "java/lang/IndexOutOfBoundsException") X.2.2.1 [] (zte 0 10 13 21) [zte 0 10 17 13, zte 0 10 21 37, zte 0 10 25 15] (hex.trans rfl) (fun _ h => nomatch h) (by decide) (by decide) (X.2.2.2 _ m_796) (zcastX (X.2.2.2 _ m_16)) hce hcv hcl (?_ : W p l e _ s m _ below meth c _ _ _ _ _ (F0 m 13 ls [.ref q9]))
      refine lv_astore (lv' := [(4, .ref q9), (0, .ref sb), (1, .int w1), (2, .int w2), (3, .ref ob)]) hx hb dL_hang_13 hl (by decide) rfl (fun ls hl => ?_)
      refine lv_iconst (v := 1) hx hb dL_hang_15 (by decide) ?_
      exact zo_i hx hb hr hlocks (by rw [h0]; rfl) ⟨by rw [k_nS_1 hr0, k_nD_1 hr0]; exact ⟨hO, hW, hWD⟩, by rw [if_neg hr0]; exact hT⟩ hS (Nat.le_of_ble_eq_true rfl) (Nat.le_of_ble_eq_true rfl) dL_hang_16
    · rw [hE0, h0] at hcl
      refine vx_catch (E := "java/lang/IllegalArgumentException") (name := "java/lang/IllegalArgumentException") X.2.2.1 [zte 0 10 13 21] (zte 0 10 17 13) [zte 0 10 21 37, zte 0 10 25 15] (hex.trans rfl) (List.forall_mem_cons.mpr ⟨Or.inr ⟨by decide, "java/lang/IndexOutOfBoundsException", X.2.2.2 _ m_796, hN 2 1 (by decide) (by decide) (by decide) (by decide) (by decide)⟩, (fun _ h => nomatch h)⟩) (by decide) (by decide) (X.2.2.2 _ m_645) (zcastX (X.2.2.2 _ m_17)) hce hcv hcl (?_ : W p l e _ s m _ below meth c _ _ _ _ _ (F0 m 17 ls [.ref q9]))
      refine lv_astore (lv' := [(4, .ref q9), (0, .ref sb), (1, .int w1), (2, .int w2), (3, .ref ob)]) hx hb dL_hang_17 hl (by decide) rfl (fun ls hl => ?_)
      refine lv_iconst (v := 2) hx hb dL_hang_19 (by decide) ?_
      exact zo_i hx hb hr hlocks (by rw [h0]; rfl) ⟨by rw [k_nS_1 hr0, k_nD_1 hr0]; exact ⟨hO, hW, hWD⟩, by rw [if_neg hr0]; exact hT⟩ hS (Nat.le_of_ble_eq_true rfl) (Nat.le_of_ble_eq_true rfl) dL_hang_20
    · rw [hE0, h0] at hcl
      refine vx_catch (E := "java/lang/UnsupportedOperationException") (name := "java/lang/UnsupportedOperationException") X.2.2.1 [zte 0 10 13 21, zte 0 10 17 13] (zte 0 10 21 37) [zte 0 10 25 15] (hex.trans rfl) (List.forall_mem_cons.mpr ⟨Or.inr ⟨by decide, "java/lang/IndexOutOfBoundsException", X.2.2.2 _ m_796, hN 3 1 (by decide) (by decide) (by decide) (by decide) (by decide)⟩, (List.forall_mem_cons.mpr ⟨Or.inr ⟨by decide, "java/lang/IllegalArgumentException", X.2.2.2 _ m_645, hN 3 2 (by decide) (by decide) (by decide) (by decide) (by decide)⟩, (fun _ h => nomatch h)⟩)⟩) (by decide) (by decide) (X.2.2.2 _ m_845) (zcastX (X.2.2.2 _ m_18)) hce hcv hcl (?_ : W p l e _ s m _ below meth c _ _ _ _ _ (F0 m 21 ls [.ref q9]))
      refine lv_astore (lv' := [(4, .ref q9), (0, .ref sb), (1, .int w1), (2, .int w2), (3, .ref ob)]) hx hb dL_hang_21 hl (by decide) rfl (fun ls hl => ?_)
      refine lv_iconst (v := 3) hx hb dL_hang_23 (by decide) ?_
      exact zo_i hx hb hr hlocks (by rw [h0]; rfl) ⟨by rw [k_nS_1 hr0, k_nD_1 hr0]; exact ⟨hO, hW, hWD⟩, by rw [if_neg hr0]; exact hT⟩ hS (Nat.le_of_ble_eq_true rfl) (Nat.le_of_ble_eq_true rfl) dL_hang_24
    · rw [hE0, h0] at hcl
      refine vx_catch (E := "java/lang/IllegalStateException") (name := "java/lang/IllegalStateException") X.2.2.1 [zte 0 10 13 21, zte 0 10 17 13, zte 0 10 21 37] (zte 0 10 25 15) [] (hex.trans rfl) (List.forall_mem_cons.mpr ⟨Or.inr ⟨by decide, "java/lang/IndexOutOfBoundsException", X.2.2.2 _ m_796, hN 4 1 (by decide) (by decide) (by decide) (by decide) (by decide)⟩, (List.forall_mem_cons.mpr ⟨Or.inr ⟨by decide, "java/lang/IllegalArgumentException", X.2.2.2 _ m_645, hN 4 2 (by decide) (by decide) (by decide) (by decide) (by decide)⟩, (List.forall_mem_cons.mpr ⟨Or.inr ⟨by decide, "java/lang/UnsupportedOperationException", X.2.2.2 _ m_845, hN 4 3 (by decide) (by decide) (by decide) (by decide) (by decide)⟩, (fun _ h => nomatch h)⟩)⟩)⟩) (by decide) (by decide) (X.2.2.2 _ m_646) (zcastX (X.2.2.2 _ m_19)) hce hcv hcl (?_ : W p l e _ s m _ below meth c _ _ _ _ _ (F0 m 25 ls [.ref q9]))
      refine lv_astore (lv' := [(4, .ref q9), (0, .ref sb), (1, .int w1), (2, .int w2), (3, .ref ob)]) hx hb dL_hang_25 hl (by decide) rfl (fun ls hl => ?_)
      refine lv_iconst (v := 4) hx hb dL_hang_27 (by decide) ?_
      exact zo_i hx hb hr hlocks (by rw [h0]; rfl) ⟨by rw [k_nS_1 hr0, k_nD_1 hr0]; exact ⟨hO, hW, hWD⟩, by rw [if_neg hr0]; exact hT⟩ hS (Nat.le_of_ble_eq_true rfl) (Nat.le_of_ble_eq_true rfl) dL_hang_28
  · obtain ⟨hO, hW, hWD⟩ := hG9
    replace hT := hT.kept (fun hq => hfr _ hq hob.1)
    refine lv_i2l hx hb dL_hang_8 rfl ?_
    refine zoL X hK hT hS (Or.inr rfl) dL_hang_9 (fun H locs hT hz9 hfr9 hS => ?_)
    have hO := zO.kept hO (fun _ => hfr9 sb (Ne.symm hob.2))
    have hW := zW.kept hW (fun q hq => hfr9 q (fun z => hob.1 (Or.inl (by rw [← z]; exact hq))))
    have hWD := zW.kept hWD (fun q hq => hfr9 q (fun z => hob.1 (Or.inr (by rw [← z]; exact hq))))
    refine lv_goto (tgt := 29) hx hb dL_hang_10 (by decide) ?_
    refine lv_iconst (v := 0) hx hb dL_hang_29 (by decide) ?_
    exact zo_i hx hb hr hlocks (by rw [h0]; rfl) ⟨by rw [k_nS_0 h0, k_nD_0 h0]; exact ⟨hO, hW, hWD⟩, by rw [if_pos h0]; exact hT⟩ hS (Nat.le_of_ble_eq_true rfl) (Nat.le_of_ble_eq_true rfl) dL_hang_30
theorem zr_6 (σ : zS) (w1 w2 w3 w4 : Int32) : k_ref σ (nI 6) w1 w2 w3 w4 = 0 ∨ k_ref σ (nI 6) w1 w2 w3 w4 = 1 ∨ k_ref σ (nI 6) w1 w2 w3 w4 = 3 ∨ k_ref σ (nI 6) w1 w2 w3 w4 = 2 := by
  rw [show nI 6 = 6 from rfl, k_ref_6]
  suffices h : (fun r : Nat => r = 0 ∨ r = 1 ∨ r = 3 ∨ r = 2) (r_X8_refusalOf_6 σ w1 w2 w3 w4) from h
  unfold r_X8_refusalOf_6 r_X8_ofStep
  repeat' (first | refine zite (P := fun r : Nat => r = 0 ∨ r = 1 ∨ r = 3 ∨ r = 2) ?_ ?_ | exact (by decide))
theorem zmL_step : zmW yL_step RL cL_step 5 (some .int) [(0, 10, 13, 21), (0, 10, 17, 37), (0, 10, 21, 13)] 4 := ⟨m_851, m_0, m_852, rfl, by decide, by decide, by decide +kernel⟩
set_option maxRecDepth 100000 in
set_option maxHeartbeats 4000000 in
theorem ctL_step (l : Launch) (hl0 : l.stackTraces = false) (D : va_G) (cy : Nat → ClassId) (rf : Nat → Nat) (sb ag : Nat) (ad : Nat → Nat → Nat) (σ : zS) (adD : Nat → Nat → Nat) (δ : zS) (hJ : zJ sb ad adD) (ob : Nat) (w0 : Int64) (hob : ¬ zRA ad adD ob ∧ ob ≠ sb) (w1 : Int32) (w2 : Int32) (hV : zV σ) (hc : zbd δ 200 512) (hfull : k_full δ = false) : Met l yL_step (zww yL_step cL_step 5 (some .int) [(0, 10, 13, 21), (0, 10, 17, 37), (0, 10, 21, 13)]) (zrx 9 1 6) (va_Pc [.ref sb, .int w1, .int w2, .ref ob] (zBN D cy rf (fun H => zSA D cy sb ag ad σ adD δ H ∧ zT D cy ob w0 H))) (zqM (some (.int (zkc [1, 3, 2] (k_ref σ (nI 6) w1 w2 0 0)))) (fun H => zSA D cy sb ag ad (k_nS σ 6 w1 w2 0 0) adD (k_nD σ δ 6 w1 w2 0 0) H ∧ zT D cy ob (if k_ref σ (nI 6) w1 w2 0 0 = 0 then (k_pr σ (nI 6) w1 w2 0 0).toInt64 else w0) H) (zRO ad adD ob)) 1 6 (zRO ad adD ob) := by
  refine zmetW (by decide) rfl (Nat.le_of_ble_eq_true rfl) rfl (fun p e s m below meth c ls X hml hr hlocks hex hv hl => ?_)
  obtain ⟨hK, hE, hN, ⟨hO, hW, hWD⟩, hT⟩ := hv
  obtain ⟨hx, hb, -, -⟩ := id X
  have hl : lv_has ls 5 [(0, .ref sb), (1, .int w1), (2, .int w2), (3, .ref ob)] := hl
  have hS : va_S (zRO ad adD ob) s.heap s.heap [] := va_S.rf
  refine lv_aload_n hx hb dL_step_0 rfl (lv_at hl 3 rfl) ?_
  refine lv_iconst (v := 0) hx hb dL_step_1 (by decide) ?_
  refine lv_aload_n hx hb dL_step_2 rfl (lv_at hl 0 rfl) ?_
  refine lv_iload_n hx hb dL_step_3 rfl (lv_at hl 1 rfl) ?_
  refine lv_iload_n hx hb dL_step_4 rfl (lv_at hl 2 rfl) ?_
  refine zcallCV (As := [.int w1, .int w2]) (rest := [.int 0, .ref ob]) X hml hK hE ⟨hO, hW, hWD⟩ (ctX9_step l hl0 D cy rf sb ag ad σ adD δ hJ w1 w2 hV hc hfull) zmX9_step (by decide) m_853 (zrecv hK hO rfl) ⟨(Nat.le_of_ble_eq_true rfl), (Nat.le_of_ble_eq_true rfl)⟩ ⟨(Nat.le_of_ble_eq_true rfl), (Nat.le_of_ble_eq_true rfl)⟩ rfl hl.1 rfl (Nat.le_of_ble_eq_true rfl) dL_step_5 hS (fun _ h => Or.inl h) (fun E ce q9 H locs hr0 hE0 hsz hfr hS hce hcv hcl => ?_) (fun h0 H locs hG9 hsz hfr hS => ?_)
  · replace hO := zO.kept hO (fun hq => hfr _ hq)
    replace hW := zW.kept hW (fun q hq => hfr q (hW.lt hq))
    replace hWD := zW.kept hWD (fun q hq => hfr q (hWD.lt hq))
    replace hT := hT.kept (fun hq => hfr _ hq)
    rcases (zr_6 σ w1 w2 0 0) with h0 | h0 | h0 | h0
    · exact absurd h0 hr0
    · rw [hE0, h0] at hcl
      refine vx_catch (E := "java/lang/IndexOutOfBoundsException") (name := "java/lang/IndexOutOfBoundsException") X.2.2.1 [] (zte 0 10 13 21) [zte 0 10 17 37, zte 0 10 21 13] (hex.trans rfl) (fun _ h => nomatch h) (by decide) (by decide) (X.2.2.2 _ m_796) (zcastX (X.2.2.2 _ m_16)) hce hcv hcl (?_ : W p l e _ s m _ below meth c _ _ _ _ _ (F0 m 13 ls [.ref q9]))
      refine lv_astore (lv' := [(4, .ref q9), (0, .ref sb), (1, .int w1), (2, .int w2), (3, .ref ob)]) hx hb dL_step_13 hl (by decide) rfl (fun ls hl => ?_)
      refine lv_iconst (v := 1) hx hb dL_step_15 (by decide) ?_
      exact zo_i hx hb hr hlocks (by rw [h0]; rfl) ⟨by rw [k_nS_1 hr0, k_nD_1 hr0]; exact ⟨hO, hW, hWD⟩, by rw [if_neg hr0]; exact hT⟩ hS (Nat.le_of_ble_eq_true rfl) (Nat.le_of_ble_eq_true rfl) dL_step_16
    · rw [hE0, h0] at hcl
      refine vx_catch (E := "java/lang/UnsupportedOperationException") (name := "java/lang/UnsupportedOperationException") X.2.2.1 [zte 0 10 13 21] (zte 0 10 17 37) [zte 0 10 21 13] (hex.trans rfl) (List.forall_mem_cons.mpr ⟨Or.inr ⟨by decide, "java/lang/IndexOutOfBoundsException", X.2.2.2 _ m_796, hN 3 1 (by decide) (by decide) (by decide) (by decide) (by decide)⟩, (fun _ h => nomatch h)⟩) (by decide) (by decide) (X.2.2.2 _ m_845) (zcastX (X.2.2.2 _ m_18)) hce hcv hcl (?_ : W p l e _ s m _ below meth c _ _ _ _ _ (F0 m 17 ls [.ref q9]))
      refine lv_astore (lv' := [(4, .ref q9), (0, .ref sb), (1, .int w1), (2, .int w2), (3, .ref ob)]) hx hb dL_step_17 hl (by decide) rfl (fun ls hl => ?_)
      refine lv_iconst (v := 2) hx hb dL_step_19 (by decide) ?_
      exact zo_i hx hb hr hlocks (by rw [h0]; rfl) ⟨by rw [k_nS_1 hr0, k_nD_1 hr0]; exact ⟨hO, hW, hWD⟩, by rw [if_neg hr0]; exact hT⟩ hS (Nat.le_of_ble_eq_true rfl) (Nat.le_of_ble_eq_true rfl) dL_step_20
    · rw [hE0, h0] at hcl
      refine vx_catch (E := "java/lang/IllegalArgumentException") (name := "java/lang/IllegalArgumentException") X.2.2.1 [zte 0 10 13 21, zte 0 10 17 37] (zte 0 10 21 13) [] (hex.trans rfl) (List.forall_mem_cons.mpr ⟨Or.inr ⟨by decide, "java/lang/IndexOutOfBoundsException", X.2.2.2 _ m_796, hN 2 1 (by decide) (by decide) (by decide) (by decide) (by decide)⟩, (List.forall_mem_cons.mpr ⟨Or.inr ⟨by decide, "java/lang/UnsupportedOperationException", X.2.2.2 _ m_845, hN 2 3 (by decide) (by decide) (by decide) (by decide) (by decide)⟩, (fun _ h => nomatch h)⟩)⟩) (by decide) (by decide) (X.2.2.2 _ m_645) (zcastX (X.2.2.2 _ m_17)) hce hcv hcl (?_ : W p l e _ s m _ below meth c _ _ _ _ _ (F0 m 21 ls [.ref q9]))
      refine lv_astore (lv' := [(4, .ref q9), (0, .ref sb), (1, .int w1), (2, .int w2), (3, .ref ob)]) hx hb dL_step_21 hl (by decide) rfl (fun ls hl => ?_)
      refine lv_iconst (v := 3) hx hb dL_step_23 (by decide) ?_
      exact zo_i hx hb hr hlocks (by rw [h0]; rfl) ⟨by rw [k_nS_1 hr0, k_nD_1 hr0]; exact ⟨hO, hW, hWD⟩, by rw [if_neg hr0]; exact hT⟩ hS (Nat.le_of_ble_eq_true rfl) (Nat.le_of_ble_eq_true rfl) dL_step_24
  · obtain ⟨hO, hW, hWD⟩ := hG9
    replace hT := hT.kept (fun hq => hfr _ hq hob.1)
    refine lv_i2l hx hb dL_step_8 rfl ?_
    refine zoL X hK hT hS (Or.inr rfl) dL_step_9 (fun H locs hT hz9 hfr9 hS => ?_)
    have hO := zO.kept hO (fun _ => hfr9 sb (Ne.symm hob.2))
    have hW := zW.kept hW (fun q hq => hfr9 q (fun z => hob.1 (Or.inl (by rw [← z]; exact hq))))
    have hWD := zW.kept hWD (fun q hq => hfr9 q (fun z => hob.1 (Or.inr (by rw [← z]; exact hq))))
    refine lv_goto (tgt := 25) hx hb dL_step_10 (by decide) ?_
    refine lv_iconst (v := 0) hx hb dL_step_25 (by decide) ?_
    exact zo_i hx hb hr hlocks (by rw [h0]; rfl) ⟨by rw [k_nS_0 h0, k_nD_0 h0]; exact ⟨hO, hW, hWD⟩, by rw [if_pos h0]; exact hT⟩ hS (Nat.le_of_ble_eq_true rfl) (Nat.le_of_ble_eq_true rfl) dL_step_26
theorem zr_7 (σ : zS) (w1 w2 w3 w4 : Int32) : k_ref σ (nI 7) w1 w2 w3 w4 = 0 ∨ k_ref σ (nI 7) w1 w2 w3 w4 = 1 ∨ k_ref σ (nI 7) w1 w2 w3 w4 = 3 := by
  rw [show nI 7 = 7 from rfl, k_ref_7]
  suffices h : (fun r : Nat => r = 0 ∨ r = 1 ∨ r = 3) (r_X8_refusalOf_7 σ w1 w2 w3 w4) from h
  unfold r_X8_refusalOf_7 r_X8_ofCanopyIn
  repeat' (first | refine zite (P := fun r : Nat => r = 0 ∨ r = 1 ∨ r = 3) ?_ ?_ | exact (by decide))
theorem zmL_breakOff : zmW yL_breakOff RL cL_breakOff 4 (some .int) [(0, 9, 12, 21), (0, 9, 15, 37)] 3 := ⟨m_858, m_0, m_859, rfl, by decide, by decide, by decide +kernel⟩
set_option maxRecDepth 100000 in
set_option maxHeartbeats 4000000 in
theorem ctL_breakOff (l : Launch) (hl0 : l.stackTraces = false) (D : va_G) (cy : Nat → ClassId) (rf : Nat → Nat) (sb ag : Nat) (ad : Nat → Nat → Nat) (σ : zS) (adD : Nat → Nat → Nat) (δ : zS) (hJ : zJ sb ad adD) (ob : Nat) (w0 : Int64) (hob : ¬ zRA ad adD ob ∧ ob ≠ sb) (w1 : Int32) (hV : zV σ) (hc : zbd δ 200 512) (hfull : k_full δ = false) : Met l yL_breakOff (zww yL_breakOff cL_breakOff 4 (some .int) [(0, 9, 12, 21), (0, 9, 15, 37)]) (zrx 9 1 6) (va_Pc [.ref sb, .int w1, .ref ob] (zBN D cy rf (fun H => zSA D cy sb ag ad σ adD δ H ∧ zT D cy ob w0 H))) (zqM (some (.int (zkc [1, 3] (k_ref σ (nI 7) w1 0 0 0)))) (fun H => zSA D cy sb ag ad (k_nS σ 7 w1 0 0 0) adD (k_nD σ δ 7 w1 0 0 0) H ∧ zT D cy ob (if k_ref σ (nI 7) w1 0 0 0 = 0 then (k_pr σ (nI 7) w1 0 0 0).toInt64 else w0) H) (zRO ad adD ob)) 1 6 (zRO ad adD ob) := by
  refine zmetW (by decide) rfl (Nat.le_of_ble_eq_true rfl) rfl (fun p e s m below meth c ls X hml hr hlocks hex hv hl => ?_)
  obtain ⟨hK, hE, hN, ⟨hO, hW, hWD⟩, hT⟩ := hv
  obtain ⟨hx, hb, -, -⟩ := id X
  have hl : lv_has ls 4 [(0, .ref sb), (1, .int w1), (2, .ref ob)] := hl
  have hS : va_S (zRO ad adD ob) s.heap s.heap [] := va_S.rf
  refine lv_aload_n hx hb dL_breakOff_0 rfl (lv_at hl 2 rfl) ?_
  refine lv_iconst (v := 0) hx hb dL_breakOff_1 (by decide) ?_
  refine lv_aload_n hx hb dL_breakOff_2 rfl (lv_at hl 0 rfl) ?_
  refine lv_iload_n hx hb dL_breakOff_3 rfl (lv_at hl 1 rfl) ?_
  refine zcallCV (As := [.int w1]) (rest := [.int 0, .ref ob]) X hml hK hE ⟨hO, hW, hWD⟩ (ctX9_breakOff l hl0 D cy rf sb ag ad σ adD δ hJ w1 hV hc hfull) zmX9_breakOff (by decide) m_860 (zrecv hK hO rfl) ⟨(Nat.le_of_ble_eq_true rfl), (Nat.le_of_ble_eq_true rfl)⟩ ⟨(Nat.le_of_ble_eq_true rfl), (Nat.le_of_ble_eq_true rfl)⟩ rfl hl.1 rfl (Nat.le_of_ble_eq_true rfl) dL_breakOff_4 hS (fun _ h => Or.inl h) (fun E ce q9 H locs hr0 hE0 hsz hfr hS hce hcv hcl => ?_) (fun h0 H locs hG9 hsz hfr hS => ?_)
  · replace hO := zO.kept hO (fun hq => hfr _ hq)
    replace hW := zW.kept hW (fun q hq => hfr q (hW.lt hq))
    replace hWD := zW.kept hWD (fun q hq => hfr q (hWD.lt hq))
    replace hT := hT.kept (fun hq => hfr _ hq)
    rcases (zr_7 σ w1 0 0 0) with h0 | h0 | h0
    · exact absurd h0 hr0
    · rw [hE0, h0] at hcl
      refine vx_catch (E := "java/lang/IndexOutOfBoundsException") (name := "java/lang/IndexOutOfBoundsException") X.2.2.1 [] (zte 0 9 12 21) [zte 0 9 15 37] (hex.trans rfl) (fun _ h => nomatch h) (by decide) (by decide) (X.2.2.2 _ m_796) (zcastX (X.2.2.2 _ m_16)) hce hcv hcl (?_ : W p l e _ s m _ below meth c _ _ _ _ _ (F0 m 12 ls [.ref q9]))
      refine lv_astore_n (lv' := [(3, .ref q9), (0, .ref sb), (1, .int w1), (2, .ref ob)]) hx hb dL_breakOff_12 rfl hl (by decide) rfl (fun ls hl => ?_)
      refine lv_iconst (v := 1) hx hb dL_breakOff_13 (by decide) ?_
      exact zo_i hx hb hr hlocks (by rw [h0]; rfl) ⟨by rw [k_nS_1 hr0, k_nD_1 hr0]; exact ⟨hO, hW, hWD⟩, by rw [if_neg hr0]; exact hT⟩ hS (Nat.le_of_ble_eq_true rfl) (Nat.le_of_ble_eq_true rfl) dL_breakOff_14
    · rw [hE0, h0] at hcl
      refine vx_catch (E := "java/lang/UnsupportedOperationException") (name := "java/lang/UnsupportedOperationException") X.2.2.1 [zte 0 9 12 21] (zte 0 9 15 37) [] (hex.trans rfl) (List.forall_mem_cons.mpr ⟨Or.inr ⟨by decide, "java/lang/IndexOutOfBoundsException", X.2.2.2 _ m_796, hN 3 1 (by decide) (by decide) (by decide) (by decide) (by decide)⟩, (fun _ h => nomatch h)⟩) (by decide) (by decide) (X.2.2.2 _ m_845) (zcastX (X.2.2.2 _ m_18)) hce hcv hcl (?_ : W p l e _ s m _ below meth c _ _ _ _ _ (F0 m 15 ls [.ref q9]))
      refine lv_astore_n (lv' := [(3, .ref q9), (0, .ref sb), (1, .int w1), (2, .ref ob)]) hx hb dL_breakOff_15 rfl hl (by decide) rfl (fun ls hl => ?_)
      refine lv_iconst (v := 2) hx hb dL_breakOff_16 (by decide) ?_
      exact zo_i hx hb hr hlocks (by rw [h0]; rfl) ⟨by rw [k_nS_1 hr0, k_nD_1 hr0]; exact ⟨hO, hW, hWD⟩, by rw [if_neg hr0]; exact hT⟩ hS (Nat.le_of_ble_eq_true rfl) (Nat.le_of_ble_eq_true rfl) dL_breakOff_17
  · obtain ⟨hO, hW, hWD⟩ := hG9
    replace hT := hT.kept (fun hq => hfr _ hq hob.1)
    refine lv_i2l hx hb dL_breakOff_7 rfl ?_
    refine zoL X hK hT hS (Or.inr rfl) dL_breakOff_8 (fun H locs hT hz9 hfr9 hS => ?_)
    have hO := zO.kept hO (fun _ => hfr9 sb (Ne.symm hob.2))
    have hW := zW.kept hW (fun q hq => hfr9 q (fun z => hob.1 (Or.inl (by rw [← z]; exact hq))))
    have hWD := zW.kept hWD (fun q hq => hfr9 q (fun z => hob.1 (Or.inr (by rw [← z]; exact hq))))
    refine lv_goto (tgt := 18) hx hb dL_breakOff_9 (by decide) ?_
    refine lv_iconst (v := 0) hx hb dL_breakOff_18 (by decide) ?_
    exact zo_i hx hb hr hlocks (by rw [h0]; rfl) ⟨by rw [k_nS_0 h0, k_nD_0 h0]; exact ⟨hO, hW, hWD⟩, by rw [if_pos h0]; exact hT⟩ hS (Nat.le_of_ble_eq_true rfl) (Nat.le_of_ble_eq_true rfl) dL_breakOff_19
theorem zr_8 (σ : zS) (w1 w2 w3 w4 : Int32) : k_ref σ (nI 8) w1 w2 w3 w4 = 0 ∨ k_ref σ (nI 8) w1 w2 w3 w4 = 4 := by
  rw [show nI 8 = 8 from rfl, k_ref_8]
  suffices h : (fun r : Nat => r = 0 ∨ r = 4) (r_X8_refusalOf_8 σ w1 w2 w3 w4) from h
  unfold r_X8_refusalOf_8
  repeat' (first | refine zite (P := fun r : Nat => r = 0 ∨ r = 4) ?_ ?_ | exact (by decide))
theorem zmL_load : zmW yL_load RL cL_load 3 (some .int) [(0, 8, 11, 15)] 2 := ⟨m_865, m_0, m_866, rfl, by decide, by decide, by decide +kernel⟩
set_option maxRecDepth 100000 in
set_option maxHeartbeats 4000000 in
theorem ctL_load (l : Launch) (hl0 : l.stackTraces = false) (D : va_G) (cy : Nat → ClassId) (rf : Nat → Nat) (sb ag : Nat) (ad : Nat → Nat → Nat) (σ : zS) (adD : Nat → Nat → Nat) (δ : zS) (hJ : zJ sb ad adD) (ob : Nat) (w0 : Int64) (hob : ¬ zRA ad adD ob ∧ ob ≠ sb) (hV : zV σ) (hc : zbd δ 200 512) (hfull : k_full δ = false) : Met l yL_load (zww yL_load cL_load 3 (some .int) [(0, 8, 11, 15)]) (zrx 9 1 6) (va_Pc [.ref sb, .ref ob] (zBN D cy rf (fun H => zSA D cy sb ag ad σ adD δ H ∧ zT D cy ob w0 H))) (zqM (some (.int (zkc [4] (k_ref σ (nI 8) 0 0 0 0)))) (fun H => zSA D cy sb ag ad (k_nS σ 8 0 0 0 0) adD (k_nD σ δ 8 0 0 0 0) H ∧ zT D cy ob (if k_ref σ (nI 8) 0 0 0 0 = 0 then (k_pr σ (nI 8) 0 0 0 0).toInt64 else w0) H) (zRO ad adD ob)) 1 6 (zRO ad adD ob) := by
  refine zmetW (by decide) rfl (Nat.le_of_ble_eq_true rfl) rfl (fun p e s m below meth c ls X hml hr hlocks hex hv hl => ?_)
  obtain ⟨hK, hE, hN, ⟨hO, hW, hWD⟩, hT⟩ := hv
  obtain ⟨hx, hb, -, -⟩ := id X
  have hl : lv_has ls 3 [(0, .ref sb), (1, .ref ob)] := hl
  have hS : va_S (zRO ad adD ob) s.heap s.heap [] := va_S.rf
  refine lv_aload_n hx hb dL_load_0 rfl (lv_at hl 1 rfl) ?_
  refine lv_iconst (v := 0) hx hb dL_load_1 (by decide) ?_
  refine lv_aload_n hx hb dL_load_2 rfl (lv_at hl 0 rfl) ?_
  refine zcallCV (As := []) (rest := [.int 0, .ref ob]) X hml hK hE ⟨hO, hW, hWD⟩ (ctX9_load l hl0 D cy rf sb ag ad σ adD δ hJ hV hc hfull) zmX9_load (by decide) m_867 (zrecv hK hO rfl) ⟨(Nat.le_of_ble_eq_true rfl), (Nat.le_of_ble_eq_true rfl)⟩ ⟨(Nat.le_of_ble_eq_true rfl), (Nat.le_of_ble_eq_true rfl)⟩ rfl hl.1 rfl (Nat.le_of_ble_eq_true rfl) dL_load_3 hS (fun _ h => Or.inl h) (fun E ce q9 H locs hr0 hE0 hsz hfr hS hce hcv hcl => ?_) (fun h0 H locs hG9 hsz hfr hS => ?_)
  · replace hO := zO.kept hO (fun hq => hfr _ hq)
    replace hW := zW.kept hW (fun q hq => hfr q (hW.lt hq))
    replace hWD := zW.kept hWD (fun q hq => hfr q (hWD.lt hq))
    replace hT := hT.kept (fun hq => hfr _ hq)
    rcases (zr_8 σ 0 0 0 0) with h0 | h0
    · exact absurd h0 hr0
    · rw [hE0, h0] at hcl
      refine vx_catch (E := "java/lang/IllegalStateException") (name := "java/lang/IllegalStateException") X.2.2.1 [] (zte 0 8 11 15) [] (hex.trans rfl) (fun _ h => nomatch h) (by decide) (by decide) (X.2.2.2 _ m_646) (zcastX (X.2.2.2 _ m_19)) hce hcv hcl (?_ : W p l e _ s m _ below meth c _ _ _ _ _ (F0 m 11 ls [.ref q9]))
      refine lv_astore_n (lv' := [(2, .ref q9), (0, .ref sb), (1, .ref ob)]) hx hb dL_load_11 rfl hl (by decide) rfl (fun ls hl => ?_)
      refine lv_iconst (v := 1) hx hb dL_load_12 (by decide) ?_
      exact zo_i hx hb hr hlocks (by rw [h0]; rfl) ⟨by rw [k_nS_1 hr0, k_nD_1 hr0]; exact ⟨hO, hW, hWD⟩, by rw [if_neg hr0]; exact hT⟩ hS (Nat.le_of_ble_eq_true rfl) (Nat.le_of_ble_eq_true rfl) dL_load_13
  · obtain ⟨hO, hW, hWD⟩ := hG9
    replace hT := hT.kept (fun hq => hfr _ hq hob.1)
    refine lv_i2l hx hb dL_load_6 rfl ?_
    refine zoL X hK hT hS (Or.inr rfl) dL_load_7 (fun H locs hT hz9 hfr9 hS => ?_)
    have hO := zO.kept hO (fun _ => hfr9 sb (Ne.symm hob.2))
    have hW := zW.kept hW (fun q hq => hfr9 q (fun z => hob.1 (Or.inl (by rw [← z]; exact hq))))
    have hWD := zW.kept hWD (fun q hq => hfr9 q (fun z => hob.1 (Or.inr (by rw [← z]; exact hq))))
    refine lv_goto (tgt := 14) hx hb dL_load_8 (by decide) ?_
    refine lv_iconst (v := 0) hx hb dL_load_14 (by decide) ?_
    exact zo_i hx hb hr hlocks (by rw [h0]; rfl) ⟨by rw [k_nS_0 h0, k_nD_0 h0]; exact ⟨hO, hW, hWD⟩, by rw [if_pos h0]; exact hT⟩ hS (Nat.le_of_ble_eq_true rfl) (Nat.le_of_ble_eq_true rfl) dL_load_15
theorem zr_9 (σ : zS) (w1 w2 w3 w4 : Int32) : k_ref σ (nI 9) w1 w2 w3 w4 = 0 ∨ k_ref σ (nI 9) w1 w2 w3 w4 = 1 ∨ k_ref σ (nI 9) w1 w2 w3 w4 = 2 ∨ k_ref σ (nI 9) w1 w2 w3 w4 = 3 ∨ k_ref σ (nI 9) w1 w2 w3 w4 = 4 := by
  rw [show nI 9 = 9 from rfl, k_ref_9]
  suffices h : (fun r : Nat => r = 0 ∨ r = 1 ∨ r = 2 ∨ r = 3 ∨ r = 4) (r_X8_refusalOf_9 σ w1 w2 w3 w4) from h
  unfold r_X8_refusalOf_9 r_X8_ofBoard
  repeat' (first | refine zite (P := fun r : Nat => r = 0 ∨ r = 1 ∨ r = 2 ∨ r = 3 ∨ r = 4) ?_ ?_ | exact (by decide))
theorem zmL_board : zmW yL_board RL cL_board 6 (some .int) [(0, 12, 15, 21), (0, 12, 19, 13), (0, 12, 23, 37), (0, 12, 27, 15)] 5 := ⟨m_872, m_0, m_873, rfl, by decide, by decide, by decide +kernel⟩
set_option maxRecDepth 100000 in
set_option maxHeartbeats 4000000 in
theorem ctL_board (l : Launch) (hl0 : l.stackTraces = false) (D : va_G) (cy : Nat → ClassId) (rf : Nat → Nat) (sb ag : Nat) (ad : Nat → Nat → Nat) (σ : zS) (adD : Nat → Nat → Nat) (δ : zS) (hJ : zJ sb ad adD) (ob : Nat) (w0 : Int64) (hob : ¬ zRA ad adD ob ∧ ob ≠ sb) (w1 : Int32) (w2 : Int32) (w3 : Int32) (hV : zV σ) (hc : zbd δ 200 512) (hfull : k_full δ = false) : Met l yL_board (zww yL_board cL_board 6 (some .int) [(0, 12, 15, 21), (0, 12, 19, 13), (0, 12, 23, 37), (0, 12, 27, 15)]) (zrx 9 1 6) (va_Pc [.ref sb, .int w1, .int w2, .int w3, .ref ob] (zBN D cy rf (fun H => zSA D cy sb ag ad σ adD δ H ∧ zT D cy ob w0 H))) (zqM (some (.int (zkc [1, 2, 3, 4] (k_ref σ (nI 9) w1 w2 w3 0)))) (fun H => zSA D cy sb ag ad (k_nS σ 9 w1 w2 w3 0) adD (k_nD σ δ 9 w1 w2 w3 0) H ∧ zT D cy ob (if k_ref σ (nI 9) w1 w2 w3 0 = 0 then (k_pr σ (nI 9) w1 w2 w3 0).toInt64 else w0) H) (zRO ad adD ob)) 1 6 (zRO ad adD ob) := by
  refine zmetW (by decide) rfl (Nat.le_of_ble_eq_true rfl) rfl (fun p e s m below meth c ls X hml hr hlocks hex hv hl => ?_)
  obtain ⟨hK, hE, hN, ⟨hO, hW, hWD⟩, hT⟩ := hv
  obtain ⟨hx, hb, -, -⟩ := id X
  have hl : lv_has ls 6 [(0, .ref sb), (1, .int w1), (2, .int w2), (3, .int w3), (4, .ref ob)] := hl
  have hS : va_S (zRO ad adD ob) s.heap s.heap [] := va_S.rf
  refine lv_aload hx hb dL_board_0 (lv_at hl 4 rfl) ?_
  refine lv_iconst (v := 0) hx hb dL_board_2 (by decide) ?_
  refine lv_aload_n hx hb dL_board_3 rfl (lv_at hl 0 rfl) ?_
  refine lv_iload_n hx hb dL_board_4 rfl (lv_at hl 1 rfl) ?_
  refine lv_iload_n hx hb dL_board_5 rfl (lv_at hl 2 rfl) ?_
  refine lv_iload_n hx hb dL_board_6 rfl (lv_at hl 3 rfl) ?_
  refine zcallCV (As := [.int w1, .int w2, .int w3]) (rest := [.int 0, .ref ob]) X hml hK hE ⟨hO, hW, hWD⟩ (ctX9_board l hl0 D cy rf sb ag ad σ adD δ hJ w1 w2 w3 hV hc hfull) zmX9_board (by decide) m_874 (zrecv hK hO rfl) ⟨(Nat.le_of_ble_eq_true rfl), (Nat.le_of_ble_eq_true rfl)⟩ ⟨(Nat.le_of_ble_eq_true rfl), (Nat.le_of_ble_eq_true rfl)⟩ rfl hl.1 rfl (Nat.le_of_ble_eq_true rfl) dL_board_7 hS (fun _ h => Or.inl h) (fun E ce q9 H locs hr0 hE0 hsz hfr hS hce hcv hcl => ?_) (fun h0 H locs hG9 hsz hfr hS => ?_)
  · replace hO := zO.kept hO (fun hq => hfr _ hq)
    replace hW := zW.kept hW (fun q hq => hfr q (hW.lt hq))
    replace hWD := zW.kept hWD (fun q hq => hfr q (hWD.lt hq))
    replace hT := hT.kept (fun hq => hfr _ hq)
    rcases (zr_9 σ w1 w2 w3 0) with h0 | h0 | h0 | h0 | h0
    · exact absurd h0 hr0
    · rw [hE0, h0] at hcl
      refine vx_catch (E := "java/lang/IndexOutOfBoundsException") (name := "java/lang/IndexOutOfBoundsException") X.2.2.1 [] (zte 0 12 15 21) [zte 0 12 19 13, zte 0 12 23 37, zte 0 12 27 15] (hex.trans rfl) (fun _ h => nomatch h) (by decide) (by decide) (X.2.2.2 _ m_796) (zcastX (X.2.2.2 _ m_16)) hce hcv hcl (?_ : W p l e _ s m _ below meth c _ _ _ _ _ (F0 m 15 ls [.ref q9]))
      refine lv_astore (lv' := [(5, .ref q9), (0, .ref sb), (1, .int w1), (2, .int w2), (3, .int w3), (4, .ref ob)]) hx hb dL_board_15 hl (by decide) rfl (fun ls hl => ?_)
      refine lv_iconst (v := 1) hx hb dL_board_17 (by decide) ?_
      exact zo_i hx hb hr hlocks (by rw [h0]; rfl) ⟨by rw [k_nS_1 hr0, k_nD_1 hr0]; exact ⟨hO, hW, hWD⟩, by rw [if_neg hr0]; exact hT⟩ hS (Nat.le_of_ble_eq_true rfl) (Nat.le_of_ble_eq_true rfl) dL_board_18
    · rw [hE0, h0] at hcl
      refine vx_catch (E := "java/lang/IllegalArgumentException") (name := "java/lang/IllegalArgumentException") X.2.2.1 [zte 0 12 15 21] (zte 0 12 19 13) [zte 0 12 23 37, zte 0 12 27 15] (hex.trans rfl) (List.forall_mem_cons.mpr ⟨Or.inr ⟨by decide, "java/lang/IndexOutOfBoundsException", X.2.2.2 _ m_796, hN 2 1 (by decide) (by decide) (by decide) (by decide) (by decide)⟩, (fun _ h => nomatch h)⟩) (by decide) (by decide) (X.2.2.2 _ m_645) (zcastX (X.2.2.2 _ m_17)) hce hcv hcl (?_ : W p l e _ s m _ below meth c _ _ _ _ _ (F0 m 19 ls [.ref q9]))
      refine lv_astore (lv' := [(5, .ref q9), (0, .ref sb), (1, .int w1), (2, .int w2), (3, .int w3), (4, .ref ob)]) hx hb dL_board_19 hl (by decide) rfl (fun ls hl => ?_)
      refine lv_iconst (v := 2) hx hb dL_board_21 (by decide) ?_
      exact zo_i hx hb hr hlocks (by rw [h0]; rfl) ⟨by rw [k_nS_1 hr0, k_nD_1 hr0]; exact ⟨hO, hW, hWD⟩, by rw [if_neg hr0]; exact hT⟩ hS (Nat.le_of_ble_eq_true rfl) (Nat.le_of_ble_eq_true rfl) dL_board_22
    · rw [hE0, h0] at hcl
      refine vx_catch (E := "java/lang/UnsupportedOperationException") (name := "java/lang/UnsupportedOperationException") X.2.2.1 [zte 0 12 15 21, zte 0 12 19 13] (zte 0 12 23 37) [zte 0 12 27 15] (hex.trans rfl) (List.forall_mem_cons.mpr ⟨Or.inr ⟨by decide, "java/lang/IndexOutOfBoundsException", X.2.2.2 _ m_796, hN 3 1 (by decide) (by decide) (by decide) (by decide) (by decide)⟩, (List.forall_mem_cons.mpr ⟨Or.inr ⟨by decide, "java/lang/IllegalArgumentException", X.2.2.2 _ m_645, hN 3 2 (by decide) (by decide) (by decide) (by decide) (by decide)⟩, (fun _ h => nomatch h)⟩)⟩) (by decide) (by decide) (X.2.2.2 _ m_845) (zcastX (X.2.2.2 _ m_18)) hce hcv hcl (?_ : W p l e _ s m _ below meth c _ _ _ _ _ (F0 m 23 ls [.ref q9]))
      refine lv_astore (lv' := [(5, .ref q9), (0, .ref sb), (1, .int w1), (2, .int w2), (3, .int w3), (4, .ref ob)]) hx hb dL_board_23 hl (by decide) rfl (fun ls hl => ?_)
      refine lv_iconst (v := 3) hx hb dL_board_25 (by decide) ?_
      exact zo_i hx hb hr hlocks (by rw [h0]; rfl) ⟨by rw [k_nS_1 hr0, k_nD_1 hr0]; exact ⟨hO, hW, hWD⟩, by rw [if_neg hr0]; exact hT⟩ hS (Nat.le_of_ble_eq_true rfl) (Nat.le_of_ble_eq_true rfl) dL_board_26
    · rw [hE0, h0] at hcl
      refine vx_catch (E := "java/lang/IllegalStateException") (name := "java/lang/IllegalStateException") X.2.2.1 [zte 0 12 15 21, zte 0 12 19 13, zte 0 12 23 37] (zte 0 12 27 15) [] (hex.trans rfl) (List.forall_mem_cons.mpr ⟨Or.inr ⟨by decide, "java/lang/IndexOutOfBoundsException", X.2.2.2 _ m_796, hN 4 1 (by decide) (by decide) (by decide) (by decide) (by decide)⟩, (List.forall_mem_cons.mpr ⟨Or.inr ⟨by decide, "java/lang/IllegalArgumentException", X.2.2.2 _ m_645, hN 4 2 (by decide) (by decide) (by decide) (by decide) (by decide)⟩, (List.forall_mem_cons.mpr ⟨Or.inr ⟨by decide, "java/lang/UnsupportedOperationException", X.2.2.2 _ m_845, hN 4 3 (by decide) (by decide) (by decide) (by decide) (by decide)⟩, (fun _ h => nomatch h)⟩)⟩)⟩) (by decide) (by decide) (X.2.2.2 _ m_646) (zcastX (X.2.2.2 _ m_19)) hce hcv hcl (?_ : W p l e _ s m _ below meth c _ _ _ _ _ (F0 m 27 ls [.ref q9]))
      refine lv_astore (lv' := [(5, .ref q9), (0, .ref sb), (1, .int w1), (2, .int w2), (3, .int w3), (4, .ref ob)]) hx hb dL_board_27 hl (by decide) rfl (fun ls hl => ?_)
      refine lv_iconst (v := 4) hx hb dL_board_29 (by decide) ?_
      exact zo_i hx hb hr hlocks (by rw [h0]; rfl) ⟨by rw [k_nS_1 hr0, k_nD_1 hr0]; exact ⟨hO, hW, hWD⟩, by rw [if_neg hr0]; exact hT⟩ hS (Nat.le_of_ble_eq_true rfl) (Nat.le_of_ble_eq_true rfl) dL_board_30
  · obtain ⟨hO, hW, hWD⟩ := hG9
    replace hT := hT.kept (fun hq => hfr _ hq hob.1)
    refine lv_i2l hx hb dL_board_10 rfl ?_
    refine zoL X hK hT hS (Or.inr rfl) dL_board_11 (fun H locs hT hz9 hfr9 hS => ?_)
    have hO := zO.kept hO (fun _ => hfr9 sb (Ne.symm hob.2))
    have hW := zW.kept hW (fun q hq => hfr9 q (fun z => hob.1 (Or.inl (by rw [← z]; exact hq))))
    have hWD := zW.kept hWD (fun q hq => hfr9 q (fun z => hob.1 (Or.inr (by rw [← z]; exact hq))))
    refine lv_goto (tgt := 31) hx hb dL_board_12 (by decide) ?_
    refine lv_iconst (v := 0) hx hb dL_board_31 (by decide) ?_
    exact zo_i hx hb hr hlocks (by rw [h0]; rfl) ⟨by rw [k_nS_0 h0, k_nD_0 h0]; exact ⟨hO, hW, hWD⟩, by rw [if_pos h0]; exact hT⟩ hS (Nat.le_of_ble_eq_true rfl) (Nat.le_of_ble_eq_true rfl) dL_board_32
theorem zr_10 (σ : zS) (w1 w2 w3 w4 : Int32) : k_ref σ (nI 10) w1 w2 w3 w4 = 0 ∨ k_ref σ (nI 10) w1 w2 w3 w4 = 1 ∨ k_ref σ (nI 10) w1 w2 w3 w4 = 3 := by
  rw [show nI 10 = 10 from rfl, k_ref_10]
  suffices h : (fun r : Nat => r = 0 ∨ r = 1 ∨ r = 3) (r_X8_refusalOf_10 σ w1 w2 w3 w4) from h
  unfold r_X8_refusalOf_10 r_X8_ofLeave
  repeat' (first | refine zite (P := fun r : Nat => r = 0 ∨ r = 1 ∨ r = 3) ?_ ?_ | exact (by decide))
theorem zmL_leave : zmW yL_leave RL cL_leave 4 (some .int) [(0, 9, 12, 21), (0, 9, 15, 37)] 3 := ⟨m_879, m_0, m_880, rfl, by decide, by decide, by decide +kernel⟩
set_option maxRecDepth 100000 in
set_option maxHeartbeats 4000000 in
theorem ctL_leave (l : Launch) (hl0 : l.stackTraces = false) (D : va_G) (cy : Nat → ClassId) (rf : Nat → Nat) (sb ag : Nat) (ad : Nat → Nat → Nat) (σ : zS) (adD : Nat → Nat → Nat) (δ : zS) (hJ : zJ sb ad adD) (ob : Nat) (w0 : Int64) (hob : ¬ zRA ad adD ob ∧ ob ≠ sb) (w1 : Int32) (hV : zV σ) (hc : zbd δ 200 512) (hfull : k_full δ = false) : Met l yL_leave (zww yL_leave cL_leave 4 (some .int) [(0, 9, 12, 21), (0, 9, 15, 37)]) (zrx 9 1 6) (va_Pc [.ref sb, .int w1, .ref ob] (zBN D cy rf (fun H => zSA D cy sb ag ad σ adD δ H ∧ zT D cy ob w0 H))) (zqM (some (.int (zkc [1, 3] (k_ref σ (nI 10) w1 0 0 0)))) (fun H => zSA D cy sb ag ad (k_nS σ 10 w1 0 0 0) adD (k_nD σ δ 10 w1 0 0 0) H ∧ zT D cy ob (if k_ref σ (nI 10) w1 0 0 0 = 0 then (k_pr σ (nI 10) w1 0 0 0).toInt64 else w0) H) (zRO ad adD ob)) 1 6 (zRO ad adD ob) := by
  refine zmetW (by decide) rfl (Nat.le_of_ble_eq_true rfl) rfl (fun p e s m below meth c ls X hml hr hlocks hex hv hl => ?_)
  obtain ⟨hK, hE, hN, ⟨hO, hW, hWD⟩, hT⟩ := hv
  obtain ⟨hx, hb, -, -⟩ := id X
  have hl : lv_has ls 4 [(0, .ref sb), (1, .int w1), (2, .ref ob)] := hl
  have hS : va_S (zRO ad adD ob) s.heap s.heap [] := va_S.rf
  refine lv_aload_n hx hb dL_leave_0 rfl (lv_at hl 2 rfl) ?_
  refine lv_iconst (v := 0) hx hb dL_leave_1 (by decide) ?_
  refine lv_aload_n hx hb dL_leave_2 rfl (lv_at hl 0 rfl) ?_
  refine lv_iload_n hx hb dL_leave_3 rfl (lv_at hl 1 rfl) ?_
  refine zcallCV (As := [.int w1]) (rest := [.int 0, .ref ob]) X hml hK hE ⟨hO, hW, hWD⟩ (ctX9_leave l hl0 D cy rf sb ag ad σ adD δ hJ w1 hV hc hfull) zmX9_leave (by decide) m_881 (zrecv hK hO rfl) ⟨(Nat.le_of_ble_eq_true rfl), (Nat.le_of_ble_eq_true rfl)⟩ ⟨(Nat.le_of_ble_eq_true rfl), (Nat.le_of_ble_eq_true rfl)⟩ rfl hl.1 rfl (Nat.le_of_ble_eq_true rfl) dL_leave_4 hS (fun _ h => Or.inl h) (fun E ce q9 H locs hr0 hE0 hsz hfr hS hce hcv hcl => ?_) (fun h0 H locs hG9 hsz hfr hS => ?_)
  · replace hO := zO.kept hO (fun hq => hfr _ hq)
    replace hW := zW.kept hW (fun q hq => hfr q (hW.lt hq))
    replace hWD := zW.kept hWD (fun q hq => hfr q (hWD.lt hq))
    replace hT := hT.kept (fun hq => hfr _ hq)
    rcases (zr_10 σ w1 0 0 0) with h0 | h0 | h0
    · exact absurd h0 hr0
    · rw [hE0, h0] at hcl
      refine vx_catch (E := "java/lang/IndexOutOfBoundsException") (name := "java/lang/IndexOutOfBoundsException") X.2.2.1 [] (zte 0 9 12 21) [zte 0 9 15 37] (hex.trans rfl) (fun _ h => nomatch h) (by decide) (by decide) (X.2.2.2 _ m_796) (zcastX (X.2.2.2 _ m_16)) hce hcv hcl (?_ : W p l e _ s m _ below meth c _ _ _ _ _ (F0 m 12 ls [.ref q9]))
      refine lv_astore_n (lv' := [(3, .ref q9), (0, .ref sb), (1, .int w1), (2, .ref ob)]) hx hb dL_leave_12 rfl hl (by decide) rfl (fun ls hl => ?_)
      refine lv_iconst (v := 1) hx hb dL_leave_13 (by decide) ?_
      exact zo_i hx hb hr hlocks (by rw [h0]; rfl) ⟨by rw [k_nS_1 hr0, k_nD_1 hr0]; exact ⟨hO, hW, hWD⟩, by rw [if_neg hr0]; exact hT⟩ hS (Nat.le_of_ble_eq_true rfl) (Nat.le_of_ble_eq_true rfl) dL_leave_14
    · rw [hE0, h0] at hcl
      refine vx_catch (E := "java/lang/UnsupportedOperationException") (name := "java/lang/UnsupportedOperationException") X.2.2.1 [zte 0 9 12 21] (zte 0 9 15 37) [] (hex.trans rfl) (List.forall_mem_cons.mpr ⟨Or.inr ⟨by decide, "java/lang/IndexOutOfBoundsException", X.2.2.2 _ m_796, hN 3 1 (by decide) (by decide) (by decide) (by decide) (by decide)⟩, (fun _ h => nomatch h)⟩) (by decide) (by decide) (X.2.2.2 _ m_845) (zcastX (X.2.2.2 _ m_18)) hce hcv hcl (?_ : W p l e _ s m _ below meth c _ _ _ _ _ (F0 m 15 ls [.ref q9]))
      refine lv_astore_n (lv' := [(3, .ref q9), (0, .ref sb), (1, .int w1), (2, .ref ob)]) hx hb dL_leave_15 rfl hl (by decide) rfl (fun ls hl => ?_)
      refine lv_iconst (v := 2) hx hb dL_leave_16 (by decide) ?_
      exact zo_i hx hb hr hlocks (by rw [h0]; rfl) ⟨by rw [k_nS_1 hr0, k_nD_1 hr0]; exact ⟨hO, hW, hWD⟩, by rw [if_neg hr0]; exact hT⟩ hS (Nat.le_of_ble_eq_true rfl) (Nat.le_of_ble_eq_true rfl) dL_leave_17
  · obtain ⟨hO, hW, hWD⟩ := hG9
    replace hT := hT.kept (fun hq => hfr _ hq hob.1)
    refine lv_i2l hx hb dL_leave_7 rfl ?_
    refine zoL X hK hT hS (Or.inr rfl) dL_leave_8 (fun H locs hT hz9 hfr9 hS => ?_)
    have hO := zO.kept hO (fun _ => hfr9 sb (Ne.symm hob.2))
    have hW := zW.kept hW (fun q hq => hfr9 q (fun z => hob.1 (Or.inl (by rw [← z]; exact hq))))
    have hWD := zW.kept hWD (fun q hq => hfr9 q (fun z => hob.1 (Or.inr (by rw [← z]; exact hq))))
    refine lv_goto (tgt := 18) hx hb dL_leave_9 (by decide) ?_
    refine lv_iconst (v := 0) hx hb dL_leave_18 (by decide) ?_
    exact zo_i hx hb hr hlocks (by rw [h0]; rfl) ⟨by rw [k_nS_0 h0, k_nD_0 h0]; exact ⟨hO, hW, hWD⟩, by rw [if_pos h0]; exact hT⟩ hS (Nat.le_of_ble_eq_true rfl) (Nat.le_of_ble_eq_true rfl) dL_leave_19
theorem zr_11 (σ : zS) (w1 w2 w3 w4 : Int32) : k_ref σ (nI 11) w1 w2 w3 w4 = 0 ∨ k_ref σ (nI 11) w1 w2 w3 w4 = 1 ∨ k_ref σ (nI 11) w1 w2 w3 w4 = 3 := by
  rw [show nI 11 = 11 from rfl, k_ref_11]
  suffices h : (fun r : Nat => r = 0 ∨ r = 1 ∨ r = 3) (r_X8_refusalOf_11 σ w1 w2 w3 w4) from h
  unfold r_X8_refusalOf_11 r_X8_ofJump r_X8_ofLeave
  repeat' (first | refine zite (P := fun r : Nat => r = 0 ∨ r = 1 ∨ r = 3) ?_ ?_ | exact (by decide))
theorem zmL_jump : zmW yL_jump RL cL_jump 5 (some .int) [(0, 10, 13, 21), (0, 10, 17, 37)] 4 := ⟨m_886, m_0, m_887, rfl, by decide, by decide, by decide +kernel⟩
set_option maxRecDepth 100000 in
set_option maxHeartbeats 4000000 in
theorem ctL_jump (l : Launch) (hl0 : l.stackTraces = false) (D : va_G) (cy : Nat → ClassId) (rf : Nat → Nat) (sb ag : Nat) (ad : Nat → Nat → Nat) (σ : zS) (adD : Nat → Nat → Nat) (δ : zS) (hJ : zJ sb ad adD) (ob : Nat) (w0 : Int64) (hob : ¬ zRA ad adD ob ∧ ob ≠ sb) (w1 : Int32) (w2 : Int32) (hV : zV σ) (hc : zbd δ 200 512) (hfull : k_full δ = false) : Met l yL_jump (zww yL_jump cL_jump 5 (some .int) [(0, 10, 13, 21), (0, 10, 17, 37)]) (zrx 9 1 6) (va_Pc [.ref sb, .int w1, .int w2, .ref ob] (zBN D cy rf (fun H => zSA D cy sb ag ad σ adD δ H ∧ zT D cy ob w0 H))) (zqM (some (.int (zkc [1, 3] (k_ref σ (nI 11) w1 w2 0 0)))) (fun H => zSA D cy sb ag ad (k_nS σ 11 w1 w2 0 0) adD (k_nD σ δ 11 w1 w2 0 0) H ∧ zT D cy ob (if k_ref σ (nI 11) w1 w2 0 0 = 0 then (k_pr σ (nI 11) w1 w2 0 0).toInt64 else w0) H) (zRO ad adD ob)) 1 6 (zRO ad adD ob) := by
  refine zmetW (by decide) rfl (Nat.le_of_ble_eq_true rfl) rfl (fun p e s m below meth c ls X hml hr hlocks hex hv hl => ?_)
  obtain ⟨hK, hE, hN, ⟨hO, hW, hWD⟩, hT⟩ := hv
  obtain ⟨hx, hb, -, -⟩ := id X
  have hl : lv_has ls 5 [(0, .ref sb), (1, .int w1), (2, .int w2), (3, .ref ob)] := hl
  have hS : va_S (zRO ad adD ob) s.heap s.heap [] := va_S.rf
  refine lv_aload_n hx hb dL_jump_0 rfl (lv_at hl 3 rfl) ?_
  refine lv_iconst (v := 0) hx hb dL_jump_1 (by decide) ?_
  refine lv_aload_n hx hb dL_jump_2 rfl (lv_at hl 0 rfl) ?_
  refine lv_iload_n hx hb dL_jump_3 rfl (lv_at hl 1 rfl) ?_
  refine lv_iload_n hx hb dL_jump_4 rfl (lv_at hl 2 rfl) ?_
  refine zcallCV (As := [.int w1, .int w2]) (rest := [.int 0, .ref ob]) X hml hK hE ⟨hO, hW, hWD⟩ (ctX9_jump l hl0 D cy rf sb ag ad σ adD δ hJ w1 w2 hV hc hfull) zmX9_jump (by decide) m_888 (zrecv hK hO rfl) ⟨(Nat.le_of_ble_eq_true rfl), (Nat.le_of_ble_eq_true rfl)⟩ ⟨(Nat.le_of_ble_eq_true rfl), (Nat.le_of_ble_eq_true rfl)⟩ rfl hl.1 rfl (Nat.le_of_ble_eq_true rfl) dL_jump_5 hS (fun _ h => Or.inl h) (fun E ce q9 H locs hr0 hE0 hsz hfr hS hce hcv hcl => ?_) (fun h0 H locs hG9 hsz hfr hS => ?_)
  · replace hO := zO.kept hO (fun hq => hfr _ hq)
    replace hW := zW.kept hW (fun q hq => hfr q (hW.lt hq))
    replace hWD := zW.kept hWD (fun q hq => hfr q (hWD.lt hq))
    replace hT := hT.kept (fun hq => hfr _ hq)
    rcases (zr_11 σ w1 w2 0 0) with h0 | h0 | h0
    · exact absurd h0 hr0
    · rw [hE0, h0] at hcl
      refine vx_catch (E := "java/lang/IndexOutOfBoundsException") (name := "java/lang/IndexOutOfBoundsException") X.2.2.1 [] (zte 0 10 13 21) [zte 0 10 17 37] (hex.trans rfl) (fun _ h => nomatch h) (by decide) (by decide) (X.2.2.2 _ m_796) (zcastX (X.2.2.2 _ m_16)) hce hcv hcl (?_ : W p l e _ s m _ below meth c _ _ _ _ _ (F0 m 13 ls [.ref q9]))
      refine lv_astore (lv' := [(4, .ref q9), (0, .ref sb), (1, .int w1), (2, .int w2), (3, .ref ob)]) hx hb dL_jump_13 hl (by decide) rfl (fun ls hl => ?_)
      refine lv_iconst (v := 1) hx hb dL_jump_15 (by decide) ?_
      exact zo_i hx hb hr hlocks (by rw [h0]; rfl) ⟨by rw [k_nS_1 hr0, k_nD_1 hr0]; exact ⟨hO, hW, hWD⟩, by rw [if_neg hr0]; exact hT⟩ hS (Nat.le_of_ble_eq_true rfl) (Nat.le_of_ble_eq_true rfl) dL_jump_16
    · rw [hE0, h0] at hcl
      refine vx_catch (E := "java/lang/UnsupportedOperationException") (name := "java/lang/UnsupportedOperationException") X.2.2.1 [zte 0 10 13 21] (zte 0 10 17 37) [] (hex.trans rfl) (List.forall_mem_cons.mpr ⟨Or.inr ⟨by decide, "java/lang/IndexOutOfBoundsException", X.2.2.2 _ m_796, hN 3 1 (by decide) (by decide) (by decide) (by decide) (by decide)⟩, (fun _ h => nomatch h)⟩) (by decide) (by decide) (X.2.2.2 _ m_845) (zcastX (X.2.2.2 _ m_18)) hce hcv hcl (?_ : W p l e _ s m _ below meth c _ _ _ _ _ (F0 m 17 ls [.ref q9]))
      refine lv_astore (lv' := [(4, .ref q9), (0, .ref sb), (1, .int w1), (2, .int w2), (3, .ref ob)]) hx hb dL_jump_17 hl (by decide) rfl (fun ls hl => ?_)
      refine lv_iconst (v := 2) hx hb dL_jump_19 (by decide) ?_
      exact zo_i hx hb hr hlocks (by rw [h0]; rfl) ⟨by rw [k_nS_1 hr0, k_nD_1 hr0]; exact ⟨hO, hW, hWD⟩, by rw [if_neg hr0]; exact hT⟩ hS (Nat.le_of_ble_eq_true rfl) (Nat.le_of_ble_eq_true rfl) dL_jump_20
  · obtain ⟨hO, hW, hWD⟩ := hG9
    replace hT := hT.kept (fun hq => hfr _ hq hob.1)
    refine lv_i2l hx hb dL_jump_8 rfl ?_
    refine zoL X hK hT hS (Or.inr rfl) dL_jump_9 (fun H locs hT hz9 hfr9 hS => ?_)
    have hO := zO.kept hO (fun _ => hfr9 sb (Ne.symm hob.2))
    have hW := zW.kept hW (fun q hq => hfr9 q (fun z => hob.1 (Or.inl (by rw [← z]; exact hq))))
    have hWD := zW.kept hWD (fun q hq => hfr9 q (fun z => hob.1 (Or.inr (by rw [← z]; exact hq))))
    refine lv_goto (tgt := 21) hx hb dL_jump_10 (by decide) ?_
    refine lv_iconst (v := 0) hx hb dL_jump_21 (by decide) ?_
    exact zo_i hx hb hr hlocks (by rw [h0]; rfl) ⟨by rw [k_nS_0 h0, k_nD_0 h0]; exact ⟨hO, hW, hWD⟩, by rw [if_pos h0]; exact hT⟩ hS (Nat.le_of_ble_eq_true rfl) (Nat.le_of_ble_eq_true rfl) dL_jump_22
theorem zr_12 (σ : zS) (w1 w2 w3 w4 : Int32) : k_ref σ (nI 12) w1 w2 w3 w4 = 0 ∨ k_ref σ (nI 12) w1 w2 w3 w4 = 1 ∨ k_ref σ (nI 12) w1 w2 w3 w4 = 4 := by
  rw [show nI 12 = 12 from rfl, k_ref_12]
  suffices h : (fun r : Nat => r = 0 ∨ r = 1 ∨ r = 4) (r_X8_refusalOf_12 σ w1 w2 w3 w4) from h
  unfold r_X8_refusalOf_12 r_X8_ofFind
  repeat' (first | refine zite (P := fun r : Nat => r = 0 ∨ r = 1 ∨ r = 4) ?_ ?_ | exact (by decide))
theorem zmL_find : zmW yL_find RL cL_find 4 (some .int) [(0, 9, 12, 21), (0, 9, 15, 15)] 3 := ⟨m_893, m_0, m_894, rfl, by decide, by decide, by decide +kernel⟩
set_option maxRecDepth 100000 in
set_option maxHeartbeats 4000000 in
theorem ctL_find (l : Launch) (hl0 : l.stackTraces = false) (D : va_G) (cy : Nat → ClassId) (rf : Nat → Nat) (sb ag : Nat) (ad : Nat → Nat → Nat) (σ : zS) (adD : Nat → Nat → Nat) (δ : zS) (hJ : zJ sb ad adD) (ob : Nat) (w0 : Int64) (hob : ¬ zRA ad adD ob ∧ ob ≠ sb) (w1 : Int32) (hV : zV σ) (hc : zbd δ 200 512) (hfull : k_full δ = false) : Met l yL_find (zww yL_find cL_find 4 (some .int) [(0, 9, 12, 21), (0, 9, 15, 15)]) (zrx 9 1 6) (va_Pc [.ref sb, .int w1, .ref ob] (zBN D cy rf (fun H => zSA D cy sb ag ad σ adD δ H ∧ zT D cy ob w0 H))) (zqM (some (.int (zkc [1, 4] (k_ref σ (nI 12) w1 0 0 0)))) (fun H => zSA D cy sb ag ad (k_nS σ 12 w1 0 0 0) adD (k_nD σ δ 12 w1 0 0 0) H ∧ zT D cy ob (if k_ref σ (nI 12) w1 0 0 0 = 0 then (k_pr σ (nI 12) w1 0 0 0).toInt64 else w0) H) (zRO ad adD ob)) 1 6 (zRO ad adD ob) := by
  refine zmetW (by decide) rfl (Nat.le_of_ble_eq_true rfl) rfl (fun p e s m below meth c ls X hml hr hlocks hex hv hl => ?_)
  obtain ⟨hK, hE, hN, ⟨hO, hW, hWD⟩, hT⟩ := hv
  obtain ⟨hx, hb, -, -⟩ := id X
  have hl : lv_has ls 4 [(0, .ref sb), (1, .int w1), (2, .ref ob)] := hl
  have hS : va_S (zRO ad adD ob) s.heap s.heap [] := va_S.rf
  refine lv_aload_n hx hb dL_find_0 rfl (lv_at hl 2 rfl) ?_
  refine lv_iconst (v := 0) hx hb dL_find_1 (by decide) ?_
  refine lv_aload_n hx hb dL_find_2 rfl (lv_at hl 0 rfl) ?_
  refine lv_iload_n hx hb dL_find_3 rfl (lv_at hl 1 rfl) ?_
  refine zcallCV (As := [.int w1]) (rest := [.int 0, .ref ob]) X hml hK hE ⟨hO, hW, hWD⟩ (ctX9_find l hl0 D cy rf sb ag ad σ adD δ hJ w1 hV hc hfull) zmX9_find (by decide) m_895 (zrecv hK hO rfl) ⟨(Nat.le_of_ble_eq_true rfl), (Nat.le_of_ble_eq_true rfl)⟩ ⟨(Nat.le_of_ble_eq_true rfl), (Nat.le_of_ble_eq_true rfl)⟩ rfl hl.1 rfl (Nat.le_of_ble_eq_true rfl) dL_find_4 hS (fun _ h => Or.inl h) (fun E ce q9 H locs hr0 hE0 hsz hfr hS hce hcv hcl => ?_) (fun h0 H locs hG9 hsz hfr hS => ?_)
  · replace hO := zO.kept hO (fun hq => hfr _ hq)
    replace hW := zW.kept hW (fun q hq => hfr q (hW.lt hq))
    replace hWD := zW.kept hWD (fun q hq => hfr q (hWD.lt hq))
    replace hT := hT.kept (fun hq => hfr _ hq)
    rcases (zr_12 σ w1 0 0 0) with h0 | h0 | h0
    · exact absurd h0 hr0
    · rw [hE0, h0] at hcl
      refine vx_catch (E := "java/lang/IndexOutOfBoundsException") (name := "java/lang/IndexOutOfBoundsException") X.2.2.1 [] (zte 0 9 12 21) [zte 0 9 15 15] (hex.trans rfl) (fun _ h => nomatch h) (by decide) (by decide) (X.2.2.2 _ m_796) (zcastX (X.2.2.2 _ m_16)) hce hcv hcl (?_ : W p l e _ s m _ below meth c _ _ _ _ _ (F0 m 12 ls [.ref q9]))
      refine lv_astore_n (lv' := [(3, .ref q9), (0, .ref sb), (1, .int w1), (2, .ref ob)]) hx hb dL_find_12 rfl hl (by decide) rfl (fun ls hl => ?_)
      refine lv_iconst (v := 1) hx hb dL_find_13 (by decide) ?_
      exact zo_i hx hb hr hlocks (by rw [h0]; rfl) ⟨by rw [k_nS_1 hr0, k_nD_1 hr0]; exact ⟨hO, hW, hWD⟩, by rw [if_neg hr0]; exact hT⟩ hS (Nat.le_of_ble_eq_true rfl) (Nat.le_of_ble_eq_true rfl) dL_find_14
    · rw [hE0, h0] at hcl
      refine vx_catch (E := "java/lang/IllegalStateException") (name := "java/lang/IllegalStateException") X.2.2.1 [zte 0 9 12 21] (zte 0 9 15 15) [] (hex.trans rfl) (List.forall_mem_cons.mpr ⟨Or.inr ⟨by decide, "java/lang/IndexOutOfBoundsException", X.2.2.2 _ m_796, hN 4 1 (by decide) (by decide) (by decide) (by decide) (by decide)⟩, (fun _ h => nomatch h)⟩) (by decide) (by decide) (X.2.2.2 _ m_646) (zcastX (X.2.2.2 _ m_19)) hce hcv hcl (?_ : W p l e _ s m _ below meth c _ _ _ _ _ (F0 m 15 ls [.ref q9]))
      refine lv_astore_n (lv' := [(3, .ref q9), (0, .ref sb), (1, .int w1), (2, .ref ob)]) hx hb dL_find_15 rfl hl (by decide) rfl (fun ls hl => ?_)
      refine lv_iconst (v := 2) hx hb dL_find_16 (by decide) ?_
      exact zo_i hx hb hr hlocks (by rw [h0]; rfl) ⟨by rw [k_nS_1 hr0, k_nD_1 hr0]; exact ⟨hO, hW, hWD⟩, by rw [if_neg hr0]; exact hT⟩ hS (Nat.le_of_ble_eq_true rfl) (Nat.le_of_ble_eq_true rfl) dL_find_17
  · obtain ⟨hO, hW, hWD⟩ := hG9
    replace hT := hT.kept (fun hq => hfr _ hq hob.1)
    refine lv_i2l hx hb dL_find_7 rfl ?_
    refine zoL X hK hT hS (Or.inr rfl) dL_find_8 (fun H locs hT hz9 hfr9 hS => ?_)
    have hO := zO.kept hO (fun _ => hfr9 sb (Ne.symm hob.2))
    have hW := zW.kept hW (fun q hq => hfr9 q (fun z => hob.1 (Or.inl (by rw [← z]; exact hq))))
    have hWD := zW.kept hWD (fun q hq => hfr9 q (fun z => hob.1 (Or.inr (by rw [← z]; exact hq))))
    refine lv_goto (tgt := 18) hx hb dL_find_9 (by decide) ?_
    refine lv_iconst (v := 0) hx hb dL_find_18 (by decide) ?_
    exact zo_i hx hb hr hlocks (by rw [h0]; rfl) ⟨by rw [k_nS_0 h0, k_nD_0 h0]; exact ⟨hO, hW, hWD⟩, by rw [if_pos h0]; exact hT⟩ hS (Nat.le_of_ble_eq_true rfl) (Nat.le_of_ble_eq_true rfl) dL_find_19
theorem zr_13 (σ : zS) (w1 w2 w3 w4 : Int32) : k_ref σ (nI 13) w1 w2 w3 w4 = 0 ∨ k_ref σ (nI 13) w1 w2 w3 w4 = 1 ∨ k_ref σ (nI 13) w1 w2 w3 w4 = 3 := by
  rw [show nI 13 = 13 from rfl, k_ref_13]
  suffices h : (fun r : Nat => r = 0 ∨ r = 1 ∨ r = 3) (r_X8_refusalOf_13 σ w1 w2 w3 w4) from h
  unfold r_X8_refusalOf_13 r_X8_ofWiden
  repeat' (first | refine zite (P := fun r : Nat => r = 0 ∨ r = 1 ∨ r = 3) ?_ ?_ | exact (by decide))
theorem zmL_widen : zmW yL_widen RL cL_widen 4 (some .int) [(0, 9, 12, 21), (0, 9, 15, 37)] 3 := ⟨m_900, m_0, m_901, rfl, by decide, by decide, by decide +kernel⟩
set_option maxRecDepth 100000 in
set_option maxHeartbeats 4000000 in
theorem ctL_widen (l : Launch) (hl0 : l.stackTraces = false) (D : va_G) (cy : Nat → ClassId) (rf : Nat → Nat) (sb ag : Nat) (ad : Nat → Nat → Nat) (σ : zS) (adD : Nat → Nat → Nat) (δ : zS) (hJ : zJ sb ad adD) (ob : Nat) (w0 : Int64) (hob : ¬ zRA ad adD ob ∧ ob ≠ sb) (w1 : Int32) (hV : zV σ) (hc : zbd δ 200 512) (hfull : k_full δ = false) : Met l yL_widen (zww yL_widen cL_widen 4 (some .int) [(0, 9, 12, 21), (0, 9, 15, 37)]) (zrx 9 1 6) (va_Pc [.ref sb, .int w1, .ref ob] (zBN D cy rf (fun H => zSA D cy sb ag ad σ adD δ H ∧ zT D cy ob w0 H))) (zqM (some (.int (zkc [1, 3] (k_ref σ (nI 13) w1 0 0 0)))) (fun H => zSA D cy sb ag ad (k_nS σ 13 w1 0 0 0) adD (k_nD σ δ 13 w1 0 0 0) H ∧ zT D cy ob (if k_ref σ (nI 13) w1 0 0 0 = 0 then (k_pr σ (nI 13) w1 0 0 0).toInt64 else w0) H) (zRO ad adD ob)) 1 6 (zRO ad adD ob) := by
  refine zmetW (by decide) rfl (Nat.le_of_ble_eq_true rfl) rfl (fun p e s m below meth c ls X hml hr hlocks hex hv hl => ?_)
  obtain ⟨hK, hE, hN, ⟨hO, hW, hWD⟩, hT⟩ := hv
  obtain ⟨hx, hb, -, -⟩ := id X
  have hl : lv_has ls 4 [(0, .ref sb), (1, .int w1), (2, .ref ob)] := hl
  have hS : va_S (zRO ad adD ob) s.heap s.heap [] := va_S.rf
  refine lv_aload_n hx hb dL_widen_0 rfl (lv_at hl 2 rfl) ?_
  refine lv_iconst (v := 0) hx hb dL_widen_1 (by decide) ?_
  refine lv_aload_n hx hb dL_widen_2 rfl (lv_at hl 0 rfl) ?_
  refine lv_iload_n hx hb dL_widen_3 rfl (lv_at hl 1 rfl) ?_
  refine zcallCV (As := [.int w1]) (rest := [.int 0, .ref ob]) X hml hK hE ⟨hO, hW, hWD⟩ (ctX9_widen l hl0 D cy rf sb ag ad σ adD δ hJ w1 hV hc hfull) zmX9_widen (by decide) m_902 (zrecv hK hO rfl) ⟨(Nat.le_of_ble_eq_true rfl), (Nat.le_of_ble_eq_true rfl)⟩ ⟨(Nat.le_of_ble_eq_true rfl), (Nat.le_of_ble_eq_true rfl)⟩ rfl hl.1 rfl (Nat.le_of_ble_eq_true rfl) dL_widen_4 hS (fun _ h => Or.inl h) (fun E ce q9 H locs hr0 hE0 hsz hfr hS hce hcv hcl => ?_) (fun h0 H locs hG9 hsz hfr hS => ?_)
  · replace hO := zO.kept hO (fun hq => hfr _ hq)
    replace hW := zW.kept hW (fun q hq => hfr q (hW.lt hq))
    replace hWD := zW.kept hWD (fun q hq => hfr q (hWD.lt hq))
    replace hT := hT.kept (fun hq => hfr _ hq)
    rcases (zr_13 σ w1 0 0 0) with h0 | h0 | h0
    · exact absurd h0 hr0
    · rw [hE0, h0] at hcl
      refine vx_catch (E := "java/lang/IndexOutOfBoundsException") (name := "java/lang/IndexOutOfBoundsException") X.2.2.1 [] (zte 0 9 12 21) [zte 0 9 15 37] (hex.trans rfl) (fun _ h => nomatch h) (by decide) (by decide) (X.2.2.2 _ m_796) (zcastX (X.2.2.2 _ m_16)) hce hcv hcl (?_ : W p l e _ s m _ below meth c _ _ _ _ _ (F0 m 12 ls [.ref q9]))
      refine lv_astore_n (lv' := [(3, .ref q9), (0, .ref sb), (1, .int w1), (2, .ref ob)]) hx hb dL_widen_12 rfl hl (by decide) rfl (fun ls hl => ?_)
      refine lv_iconst (v := 1) hx hb dL_widen_13 (by decide) ?_
      exact zo_i hx hb hr hlocks (by rw [h0]; rfl) ⟨by rw [k_nS_1 hr0, k_nD_1 hr0]; exact ⟨hO, hW, hWD⟩, by rw [if_neg hr0]; exact hT⟩ hS (Nat.le_of_ble_eq_true rfl) (Nat.le_of_ble_eq_true rfl) dL_widen_14
    · rw [hE0, h0] at hcl
      refine vx_catch (E := "java/lang/UnsupportedOperationException") (name := "java/lang/UnsupportedOperationException") X.2.2.1 [zte 0 9 12 21] (zte 0 9 15 37) [] (hex.trans rfl) (List.forall_mem_cons.mpr ⟨Or.inr ⟨by decide, "java/lang/IndexOutOfBoundsException", X.2.2.2 _ m_796, hN 3 1 (by decide) (by decide) (by decide) (by decide) (by decide)⟩, (fun _ h => nomatch h)⟩) (by decide) (by decide) (X.2.2.2 _ m_845) (zcastX (X.2.2.2 _ m_18)) hce hcv hcl (?_ : W p l e _ s m _ below meth c _ _ _ _ _ (F0 m 15 ls [.ref q9]))
      refine lv_astore_n (lv' := [(3, .ref q9), (0, .ref sb), (1, .int w1), (2, .ref ob)]) hx hb dL_widen_15 rfl hl (by decide) rfl (fun ls hl => ?_)
      refine lv_iconst (v := 2) hx hb dL_widen_16 (by decide) ?_
      exact zo_i hx hb hr hlocks (by rw [h0]; rfl) ⟨by rw [k_nS_1 hr0, k_nD_1 hr0]; exact ⟨hO, hW, hWD⟩, by rw [if_neg hr0]; exact hT⟩ hS (Nat.le_of_ble_eq_true rfl) (Nat.le_of_ble_eq_true rfl) dL_widen_17
  · obtain ⟨hO, hW, hWD⟩ := hG9
    replace hT := hT.kept (fun hq => hfr _ hq hob.1)
    refine lv_i2l hx hb dL_widen_7 rfl ?_
    refine zoL X hK hT hS (Or.inr rfl) dL_widen_8 (fun H locs hT hz9 hfr9 hS => ?_)
    have hO := zO.kept hO (fun _ => hfr9 sb (Ne.symm hob.2))
    have hW := zW.kept hW (fun q hq => hfr9 q (fun z => hob.1 (Or.inl (by rw [← z]; exact hq))))
    have hWD := zW.kept hWD (fun q hq => hfr9 q (fun z => hob.1 (Or.inr (by rw [← z]; exact hq))))
    refine lv_goto (tgt := 18) hx hb dL_widen_9 (by decide) ?_
    refine lv_iconst (v := 0) hx hb dL_widen_18 (by decide) ?_
    exact zo_i hx hb hr hlocks (by rw [h0]; rfl) ⟨by rw [k_nS_0 h0, k_nD_0 h0]; exact ⟨hO, hW, hWD⟩, by rw [if_pos h0]; exact hT⟩ hS (Nat.le_of_ble_eq_true rfl) (Nat.le_of_ble_eq_true rfl) dL_widen_19
theorem zr_14 (σ : zS) (w1 w2 w3 w4 : Int32) : k_ref σ (nI 14) w1 w2 w3 w4 = 0 ∨ k_ref σ (nI 14) w1 w2 w3 w4 = 1 ∨ k_ref σ (nI 14) w1 w2 w3 w4 = 2 ∨ k_ref σ (nI 14) w1 w2 w3 w4 = 3 := by
  rw [show nI 14 = 14 from rfl, k_ref_14]
  suffices h : (fun r : Nat => r = 0 ∨ r = 1 ∨ r = 2 ∨ r = 3) (r_X8_refusalOf_14 σ w1 w2 w3 w4) from h
  unfold r_X8_refusalOf_14 r_X8_ofTellCause
  repeat' (first | refine zite (P := fun r : Nat => r = 0 ∨ r = 1 ∨ r = 2 ∨ r = 3) ?_ ?_ | exact (by decide))
theorem zmL_tellCause : zmW yL_tellCause RL cL_tellCause 5 (some .int) [(0, 10, 13, 21), (0, 10, 17, 13), (0, 10, 21, 37)] 4 := ⟨m_907, m_0, m_908, rfl, by decide, by decide, by decide +kernel⟩
set_option maxRecDepth 100000 in
set_option maxHeartbeats 4000000 in
theorem ctL_tellCause (l : Launch) (hl0 : l.stackTraces = false) (D : va_G) (cy : Nat → ClassId) (rf : Nat → Nat) (sb ag : Nat) (ad : Nat → Nat → Nat) (σ : zS) (adD : Nat → Nat → Nat) (δ : zS) (hJ : zJ sb ad adD) (ob : Nat) (w0 : Int64) (hob : ¬ zRA ad adD ob ∧ ob ≠ sb) (w1 : Int32) (w2 : Int32) (hV : zV σ) (hc : zbd δ 200 512) (hfull : k_full δ = false) : Met l yL_tellCause (zww yL_tellCause cL_tellCause 5 (some .int) [(0, 10, 13, 21), (0, 10, 17, 13), (0, 10, 21, 37)]) (zrx 9 1 6) (va_Pc [.ref sb, .int w1, .int w2, .ref ob] (zBN D cy rf (fun H => zSA D cy sb ag ad σ adD δ H ∧ zT D cy ob w0 H))) (zqM (some (.int (zkc [1, 2, 3] (k_ref σ (nI 14) w1 w2 0 0)))) (fun H => zSA D cy sb ag ad (k_nS σ 14 w1 w2 0 0) adD (k_nD σ δ 14 w1 w2 0 0) H ∧ zT D cy ob (if k_ref σ (nI 14) w1 w2 0 0 = 0 then (((k_pr σ (nI 14) w1 w2 0 0).toUInt32 % 65536).toInt32).toInt64 else w0) H) (zRO ad adD ob)) 1 6 (zRO ad adD ob) := by
  refine zmetW (by decide) rfl (Nat.le_of_ble_eq_true rfl) rfl (fun p e s m below meth c ls X hml hr hlocks hex hv hl => ?_)
  obtain ⟨hK, hE, hN, ⟨hO, hW, hWD⟩, hT⟩ := hv
  obtain ⟨hx, hb, -, -⟩ := id X
  have hl : lv_has ls 5 [(0, .ref sb), (1, .int w1), (2, .int w2), (3, .ref ob)] := hl
  have hS : va_S (zRO ad adD ob) s.heap s.heap [] := va_S.rf
  refine lv_aload_n hx hb dL_tellCause_0 rfl (lv_at hl 3 rfl) ?_
  refine lv_iconst (v := 0) hx hb dL_tellCause_1 (by decide) ?_
  refine lv_aload_n hx hb dL_tellCause_2 rfl (lv_at hl 0 rfl) ?_
  refine lv_iload_n hx hb dL_tellCause_3 rfl (lv_at hl 1 rfl) ?_
  refine lv_iload_n hx hb dL_tellCause_4 rfl (lv_at hl 2 rfl) ?_
  refine zcallCV (As := [.int w1, .int w2]) (rest := [.int 0, .ref ob]) X hml hK hE ⟨hO, hW, hWD⟩ (ctX9_tellCause l hl0 D cy rf sb ag ad σ adD δ hJ w1 w2 hV hc hfull) zmX9_tellCause (by decide) m_909 (zrecv hK hO rfl) ⟨(Nat.le_of_ble_eq_true rfl), (Nat.le_of_ble_eq_true rfl)⟩ ⟨(Nat.le_of_ble_eq_true rfl), (Nat.le_of_ble_eq_true rfl)⟩ rfl hl.1 rfl (Nat.le_of_ble_eq_true rfl) dL_tellCause_5 hS (fun _ h => Or.inl h) (fun E ce q9 H locs hr0 hE0 hsz hfr hS hce hcv hcl => ?_) (fun h0 H locs hG9 hsz hfr hS => ?_)
  · replace hO := zO.kept hO (fun hq => hfr _ hq)
    replace hW := zW.kept hW (fun q hq => hfr q (hW.lt hq))
    replace hWD := zW.kept hWD (fun q hq => hfr q (hWD.lt hq))
    replace hT := hT.kept (fun hq => hfr _ hq)
    rcases (zr_14 σ w1 w2 0 0) with h0 | h0 | h0 | h0
    · exact absurd h0 hr0
    · rw [hE0, h0] at hcl
      refine vx_catch (E := "java/lang/IndexOutOfBoundsException") (name := "java/lang/IndexOutOfBoundsException") X.2.2.1 [] (zte 0 10 13 21) [zte 0 10 17 13, zte 0 10 21 37] (hex.trans rfl) (fun _ h => nomatch h) (by decide) (by decide) (X.2.2.2 _ m_796) (zcastX (X.2.2.2 _ m_16)) hce hcv hcl (?_ : W p l e _ s m _ below meth c _ _ _ _ _ (F0 m 13 ls [.ref q9]))
      refine lv_astore (lv' := [(4, .ref q9), (0, .ref sb), (1, .int w1), (2, .int w2), (3, .ref ob)]) hx hb dL_tellCause_13 hl (by decide) rfl (fun ls hl => ?_)
      refine lv_iconst (v := 1) hx hb dL_tellCause_15 (by decide) ?_
      exact zo_i hx hb hr hlocks (by rw [h0]; rfl) ⟨by rw [k_nS_1 hr0, k_nD_1 hr0]; exact ⟨hO, hW, hWD⟩, by rw [if_neg hr0]; exact hT⟩ hS (Nat.le_of_ble_eq_true rfl) (Nat.le_of_ble_eq_true rfl) dL_tellCause_16
    · rw [hE0, h0] at hcl
      refine vx_catch (E := "java/lang/IllegalArgumentException") (name := "java/lang/IllegalArgumentException") X.2.2.1 [zte 0 10 13 21] (zte 0 10 17 13) [zte 0 10 21 37] (hex.trans rfl) (List.forall_mem_cons.mpr ⟨Or.inr ⟨by decide, "java/lang/IndexOutOfBoundsException", X.2.2.2 _ m_796, hN 2 1 (by decide) (by decide) (by decide) (by decide) (by decide)⟩, (fun _ h => nomatch h)⟩) (by decide) (by decide) (X.2.2.2 _ m_645) (zcastX (X.2.2.2 _ m_17)) hce hcv hcl (?_ : W p l e _ s m _ below meth c _ _ _ _ _ (F0 m 17 ls [.ref q9]))
      refine lv_astore (lv' := [(4, .ref q9), (0, .ref sb), (1, .int w1), (2, .int w2), (3, .ref ob)]) hx hb dL_tellCause_17 hl (by decide) rfl (fun ls hl => ?_)
      refine lv_iconst (v := 2) hx hb dL_tellCause_19 (by decide) ?_
      exact zo_i hx hb hr hlocks (by rw [h0]; rfl) ⟨by rw [k_nS_1 hr0, k_nD_1 hr0]; exact ⟨hO, hW, hWD⟩, by rw [if_neg hr0]; exact hT⟩ hS (Nat.le_of_ble_eq_true rfl) (Nat.le_of_ble_eq_true rfl) dL_tellCause_20
    · rw [hE0, h0] at hcl
      refine vx_catch (E := "java/lang/UnsupportedOperationException") (name := "java/lang/UnsupportedOperationException") X.2.2.1 [zte 0 10 13 21, zte 0 10 17 13] (zte 0 10 21 37) [] (hex.trans rfl) (List.forall_mem_cons.mpr ⟨Or.inr ⟨by decide, "java/lang/IndexOutOfBoundsException", X.2.2.2 _ m_796, hN 3 1 (by decide) (by decide) (by decide) (by decide) (by decide)⟩, (List.forall_mem_cons.mpr ⟨Or.inr ⟨by decide, "java/lang/IllegalArgumentException", X.2.2.2 _ m_645, hN 3 2 (by decide) (by decide) (by decide) (by decide) (by decide)⟩, (fun _ h => nomatch h)⟩)⟩) (by decide) (by decide) (X.2.2.2 _ m_845) (zcastX (X.2.2.2 _ m_18)) hce hcv hcl (?_ : W p l e _ s m _ below meth c _ _ _ _ _ (F0 m 21 ls [.ref q9]))
      refine lv_astore (lv' := [(4, .ref q9), (0, .ref sb), (1, .int w1), (2, .int w2), (3, .ref ob)]) hx hb dL_tellCause_21 hl (by decide) rfl (fun ls hl => ?_)
      refine lv_iconst (v := 3) hx hb dL_tellCause_23 (by decide) ?_
      exact zo_i hx hb hr hlocks (by rw [h0]; rfl) ⟨by rw [k_nS_1 hr0, k_nD_1 hr0]; exact ⟨hO, hW, hWD⟩, by rw [if_neg hr0]; exact hT⟩ hS (Nat.le_of_ble_eq_true rfl) (Nat.le_of_ble_eq_true rfl) dL_tellCause_24
  · obtain ⟨hO, hW, hWD⟩ := hG9
    replace hT := hT.kept (fun hq => hfr _ hq hob.1)
    refine lv_i2l hx hb dL_tellCause_8 rfl ?_
    refine zoL X hK hT hS (Or.inr rfl) dL_tellCause_9 (fun H locs hT hz9 hfr9 hS => ?_)
    have hO := zO.kept hO (fun _ => hfr9 sb (Ne.symm hob.2))
    have hW := zW.kept hW (fun q hq => hfr9 q (fun z => hob.1 (Or.inl (by rw [← z]; exact hq))))
    have hWD := zW.kept hWD (fun q hq => hfr9 q (fun z => hob.1 (Or.inr (by rw [← z]; exact hq))))
    refine lv_goto (tgt := 25) hx hb dL_tellCause_10 (by decide) ?_
    refine lv_iconst (v := 0) hx hb dL_tellCause_25 (by decide) ?_
    exact zo_i hx hb hr hlocks (by rw [h0]; rfl) ⟨by rw [k_nS_0 h0, k_nD_0 h0]; exact ⟨hO, hW, hWD⟩, by rw [if_pos h0]; exact hT⟩ hS (Nat.le_of_ble_eq_true rfl) (Nat.le_of_ble_eq_true rfl) dL_tellCause_26
theorem zr_15 (σ : zS) (w1 w2 w3 w4 : Int32) : k_ref σ (nI 15) w1 w2 w3 w4 = 0 ∨ k_ref σ (nI 15) w1 w2 w3 w4 = 1 := by
  rw [show nI 15 = 15 from rfl, k_ref_15]
  suffices h : (fun r : Nat => r = 0 ∨ r = 1) (r_X8_refusalOf_15 σ w1 w2 w3 w4) from h
  unfold r_X8_refusalOf_15
  repeat' (first | refine zite (P := fun r : Nat => r = 0 ∨ r = 1) ?_ ?_ | exact (by decide))
theorem zmL_close : zmW yL_close RL cL_close 4 (some .int) [(0, 16, 19, 21)] 3 := ⟨m_914, m_0, m_915, rfl, by decide, by decide, by decide +kernel⟩
set_option maxRecDepth 100000 in
set_option maxHeartbeats 4000000 in
theorem ctL_close (l : Launch) (hl0 : l.stackTraces = false) (D : va_G) (cy : Nat → ClassId) (rf : Nat → Nat) (sb ag : Nat) (ad : Nat → Nat → Nat) (σ : zS) (adD : Nat → Nat → Nat) (δ : zS) (hJ : zJ sb ad adD) (ob : Nat) (w0 : Int64) (hob : ¬ zRA ad adD ob ∧ ob ≠ sb) (w1 : Int32) (hV : zV σ) (hc : zbd δ 200 512) (hfull : k_full δ = false) : Met l yL_close (zww yL_close cL_close 4 (some .int) [(0, 16, 19, 21)]) (zrx 9 1 6) (va_Pc [.ref sb, .int w1, .ref ob] (zBN D cy rf (fun H => zSA D cy sb ag ad σ adD δ H ∧ zT D cy ob w0 H))) (zqM (some (.int (zkc [1] (k_ref σ (nI 15) w1 0 0 0)))) (fun H => zSA D cy sb ag ad (k_nS σ 15 w1 0 0 0) adD (k_nD σ δ 15 w1 0 0 0) H ∧ zT D cy ob (if k_ref σ (nI 15) w1 0 0 0 = 0 then bL (decide (k_pr σ (nI 15) w1 0 0 0 = 1)) else w0) H) (zRO ad adD ob)) 1 6 (zRO ad adD ob) := by
  refine zmetW (by decide) rfl (Nat.le_of_ble_eq_true rfl) rfl (fun p e s m below meth c ls X hml hr hlocks hex hv hl => ?_)
  obtain ⟨hK, hE, hN, ⟨hO, hW, hWD⟩, hT⟩ := hv
  obtain ⟨hx, hb, -, -⟩ := id X
  have hl : lv_has ls 4 [(0, .ref sb), (1, .int w1), (2, .ref ob)] := hl
  have hS : va_S (zRO ad adD ob) s.heap s.heap [] := va_S.rf
  refine lv_aload_n hx hb dL_close_0 rfl (lv_at hl 2 rfl) ?_
  refine lv_iconst (v := 0) hx hb dL_close_1 (by decide) ?_
  refine lv_aload_n hx hb dL_close_2 rfl (lv_at hl 0 rfl) ?_
  refine lv_iload_n hx hb dL_close_3 rfl (lv_at hl 1 rfl) ?_
  refine zcallCV (As := [.int w1]) (rest := [.int 0, .ref ob]) X hml hK hE ⟨hO, hW, hWD⟩ (ctX9_close l hl0 D cy rf sb ag ad σ adD δ hJ w1 hV hc hfull) zmX9_close (by decide) m_916 (zrecv hK hO rfl) ⟨(Nat.le_of_ble_eq_true rfl), (Nat.le_of_ble_eq_true rfl)⟩ ⟨(Nat.le_of_ble_eq_true rfl), (Nat.le_of_ble_eq_true rfl)⟩ rfl hl.1 rfl (Nat.le_of_ble_eq_true rfl) dL_close_4 hS (fun _ h => Or.inl h) (fun E ce q9 H locs hr0 hE0 hsz hfr hS hce hcv hcl => ?_) (fun h0 H locs hG9 hsz hfr hS => ?_)
  · replace hO := zO.kept hO (fun hq => hfr _ hq)
    replace hW := zW.kept hW (fun q hq => hfr q (hW.lt hq))
    replace hWD := zW.kept hWD (fun q hq => hfr q (hWD.lt hq))
    replace hT := hT.kept (fun hq => hfr _ hq)
    rcases (zr_15 σ w1 0 0 0) with h0 | h0
    · exact absurd h0 hr0
    · rw [hE0, h0] at hcl
      refine vx_catch (E := "java/lang/IndexOutOfBoundsException") (name := "java/lang/IndexOutOfBoundsException") X.2.2.1 [] (zte 0 16 19 21) [] (hex.trans rfl) (fun _ h => nomatch h) (by decide) (by decide) (X.2.2.2 _ m_796) (zcastX (X.2.2.2 _ m_16)) hce hcv hcl (?_ : W p l e _ s m _ below meth c _ _ _ _ _ (F0 m 19 ls [.ref q9]))
      refine lv_astore_n (lv' := [(3, .ref q9), (0, .ref sb), (1, .int w1), (2, .ref ob)]) hx hb dL_close_19 rfl hl (by decide) rfl (fun ls hl => ?_)
      refine lv_iconst (v := 1) hx hb dL_close_20 (by decide) ?_
      exact zo_i hx hb hr hlocks (by rw [h0]; rfl) ⟨by rw [k_nS_1 hr0, k_nD_1 hr0]; exact ⟨hO, hW, hWD⟩, by rw [if_neg hr0]; exact hT⟩ hS (Nat.le_of_ble_eq_true rfl) (Nat.le_of_ble_eq_true rfl) dL_close_21
  · obtain ⟨hO, hW, hWD⟩ := hG9
    replace hT := hT.kept (fun hq => hfr _ hq hob.1)
    refine zb_eq (tgt := 14) hx hb dL_close_7 (by decide) (fun b1 => ?_) (fun b1 => ?_)
    · refine lv_lconst (v := 0) hx hb dL_close_14 rfl ?_
      refine zoL X hK hT hS (Or.inr rfl) dL_close_15 (fun H locs hT hz9 hfr9 hS => ?_)
      have hO := zO.kept hO (fun _ => hfr9 sb (Ne.symm hob.2))
      have hW := zW.kept hW (fun q hq => hfr9 q (fun z => hob.1 (Or.inl (by rw [← z]; exact hq))))
      have hWD := zW.kept hWD (fun q hq => hfr9 q (fun z => hob.1 (Or.inr (by rw [← z]; exact hq))))
      refine lv_goto (tgt := 22) hx hb dL_close_16 (by decide) ?_
      refine lv_iconst (v := 0) hx hb dL_close_22 (by decide) ?_
      exact zo_i hx hb hr hlocks (by rw [h0]; rfl) ⟨by rw [k_nS_0 h0, k_nD_0 h0]; exact ⟨hO, hW, hWD⟩, by rw [if_pos h0, bL, b1, if_neg (by decide)]; exact hT⟩ hS (Nat.le_of_ble_eq_true rfl) (Nat.le_of_ble_eq_true rfl) dL_close_23
    · refine lv_lconst (v := 1) hx hb dL_close_10 rfl ?_
      refine lv_goto (tgt := 15) hx hb dL_close_11 (by decide) ?_
      refine zoL X hK hT hS (Or.inr rfl) dL_close_15 (fun H locs hT hz9 hfr9 hS => ?_)
      have hO := zO.kept hO (fun _ => hfr9 sb (Ne.symm hob.2))
      have hW := zW.kept hW (fun q hq => hfr9 q (fun z => hob.1 (Or.inl (by rw [← z]; exact hq))))
      have hWD := zW.kept hWD (fun q hq => hfr9 q (fun z => hob.1 (Or.inr (by rw [← z]; exact hq))))
      refine lv_goto (tgt := 22) hx hb dL_close_16 (by decide) ?_
      refine lv_iconst (v := 0) hx hb dL_close_22 (by decide) ?_
      exact zo_i hx hb hr hlocks (by rw [h0]; rfl) ⟨by rw [k_nS_0 h0, k_nD_0 h0]; exact ⟨hO, hW, hWD⟩, by rw [if_pos h0, bL, b1, if_pos rfl]; exact hT⟩ hS (Nat.le_of_ble_eq_true rfl) (Nat.le_of_ble_eq_true rfl) dL_close_23
theorem zr_16 (σ : zS) (w1 w2 w3 w4 : Int32) : k_ref σ (nI 16) w1 w2 w3 w4 = 0 ∨ k_ref σ (nI 16) w1 w2 w3 w4 = 1 ∨ k_ref σ (nI 16) w1 w2 w3 w4 = 3 ∨ k_ref σ (nI 16) w1 w2 w3 w4 = 2 := by
  rw [show nI 16 = 16 from rfl, k_ref_16]
  suffices h : (fun r : Nat => r = 0 ∨ r = 1 ∨ r = 3 ∨ r = 2) (r_X8_refusalOf_16 σ w1 w2 w3 w4) from h
  unfold r_X8_refusalOf_16 r_X8_ofRepair
  repeat' (first | refine zite (P := fun r : Nat => r = 0 ∨ r = 1 ∨ r = 3 ∨ r = 2) ?_ ?_ | exact (by decide))
theorem zmL_repair : zmW yL_repair RL cL_repair 5 (some .int) [(0, 10, 13, 21), (0, 10, 17, 37), (0, 10, 21, 13)] 4 := ⟨m_934, m_0, m_935, rfl, by decide, by decide, by decide +kernel⟩
set_option maxRecDepth 100000 in
set_option maxHeartbeats 4000000 in
theorem ctL_repair (l : Launch) (hl0 : l.stackTraces = false) (D : va_G) (cy : Nat → ClassId) (rf : Nat → Nat) (sb ag : Nat) (ad : Nat → Nat → Nat) (σ : zS) (adD : Nat → Nat → Nat) (δ : zS) (hJ : zJ sb ad adD) (ob : Nat) (w0 : Int64) (hob : ¬ zRA ad adD ob ∧ ob ≠ sb) (w1 : Int32) (w2 : Int32) (hV : zV σ) (hc : zbd δ 200 512) (hfull : k_full δ = false) : Met l yL_repair (zww yL_repair cL_repair 5 (some .int) [(0, 10, 13, 21), (0, 10, 17, 37), (0, 10, 21, 13)]) (zrx 9 1 6) (va_Pc [.ref sb, .int w1, .int w2, .ref ob] (zBN D cy rf (fun H => zSA D cy sb ag ad σ adD δ H ∧ zT D cy ob w0 H))) (zqM (some (.int (zkc [1, 3, 2] (k_ref σ (nI 16) w1 w2 0 0)))) (fun H => zSA D cy sb ag ad (k_nS σ 16 w1 w2 0 0) adD (k_nD σ δ 16 w1 w2 0 0) H ∧ zT D cy ob (if k_ref σ (nI 16) w1 w2 0 0 = 0 then (k_pr σ (nI 16) w1 w2 0 0).toInt64 else w0) H) (zRO ad adD ob)) 1 6 (zRO ad adD ob) := by
  refine zmetW (by decide) rfl (Nat.le_of_ble_eq_true rfl) rfl (fun p e s m below meth c ls X hml hr hlocks hex hv hl => ?_)
  obtain ⟨hK, hE, hN, ⟨hO, hW, hWD⟩, hT⟩ := hv
  obtain ⟨hx, hb, -, -⟩ := id X
  have hl : lv_has ls 5 [(0, .ref sb), (1, .int w1), (2, .int w2), (3, .ref ob)] := hl
  have hS : va_S (zRO ad adD ob) s.heap s.heap [] := va_S.rf
  refine lv_aload_n hx hb dL_repair_0 rfl (lv_at hl 3 rfl) ?_
  refine lv_iconst (v := 0) hx hb dL_repair_1 (by decide) ?_
  refine lv_aload_n hx hb dL_repair_2 rfl (lv_at hl 0 rfl) ?_
  refine lv_iload_n hx hb dL_repair_3 rfl (lv_at hl 1 rfl) ?_
  refine lv_iload_n hx hb dL_repair_4 rfl (lv_at hl 2 rfl) ?_
  refine zcallCV (As := [.int w1, .int w2]) (rest := [.int 0, .ref ob]) X hml hK hE ⟨hO, hW, hWD⟩ (ctX9_repair l hl0 D cy rf sb ag ad σ adD δ hJ w1 w2 hV hc hfull) zmX9_repair (by decide) m_936 (zrecv hK hO rfl) ⟨(Nat.le_of_ble_eq_true rfl), (Nat.le_of_ble_eq_true rfl)⟩ ⟨(Nat.le_of_ble_eq_true rfl), (Nat.le_of_ble_eq_true rfl)⟩ rfl hl.1 rfl (Nat.le_of_ble_eq_true rfl) dL_repair_5 hS (fun _ h => Or.inl h) (fun E ce q9 H locs hr0 hE0 hsz hfr hS hce hcv hcl => ?_) (fun h0 H locs hG9 hsz hfr hS => ?_)
  · replace hO := zO.kept hO (fun hq => hfr _ hq)
    replace hW := zW.kept hW (fun q hq => hfr q (hW.lt hq))
    replace hWD := zW.kept hWD (fun q hq => hfr q (hWD.lt hq))
    replace hT := hT.kept (fun hq => hfr _ hq)
    rcases (zr_16 σ w1 w2 0 0) with h0 | h0 | h0 | h0
    · exact absurd h0 hr0
    · rw [hE0, h0] at hcl
      refine vx_catch (E := "java/lang/IndexOutOfBoundsException") (name := "java/lang/IndexOutOfBoundsException") X.2.2.1 [] (zte 0 10 13 21) [zte 0 10 17 37, zte 0 10 21 13] (hex.trans rfl) (fun _ h => nomatch h) (by decide) (by decide) (X.2.2.2 _ m_796) (zcastX (X.2.2.2 _ m_16)) hce hcv hcl (?_ : W p l e _ s m _ below meth c _ _ _ _ _ (F0 m 13 ls [.ref q9]))
      refine lv_astore (lv' := [(4, .ref q9), (0, .ref sb), (1, .int w1), (2, .int w2), (3, .ref ob)]) hx hb dL_repair_13 hl (by decide) rfl (fun ls hl => ?_)
      refine lv_iconst (v := 1) hx hb dL_repair_15 (by decide) ?_
      exact zo_i hx hb hr hlocks (by rw [h0]; rfl) ⟨by rw [k_nS_1 hr0, k_nD_1 hr0]; exact ⟨hO, hW, hWD⟩, by rw [if_neg hr0]; exact hT⟩ hS (Nat.le_of_ble_eq_true rfl) (Nat.le_of_ble_eq_true rfl) dL_repair_16
    · rw [hE0, h0] at hcl
      refine vx_catch (E := "java/lang/UnsupportedOperationException") (name := "java/lang/UnsupportedOperationException") X.2.2.1 [zte 0 10 13 21] (zte 0 10 17 37) [zte 0 10 21 13] (hex.trans rfl) (List.forall_mem_cons.mpr ⟨Or.inr ⟨by decide, "java/lang/IndexOutOfBoundsException", X.2.2.2 _ m_796, hN 3 1 (by decide) (by decide) (by decide) (by decide) (by decide)⟩, (fun _ h => nomatch h)⟩) (by decide) (by decide) (X.2.2.2 _ m_845) (zcastX (X.2.2.2 _ m_18)) hce hcv hcl (?_ : W p l e _ s m _ below meth c _ _ _ _ _ (F0 m 17 ls [.ref q9]))
      refine lv_astore (lv' := [(4, .ref q9), (0, .ref sb), (1, .int w1), (2, .int w2), (3, .ref ob)]) hx hb dL_repair_17 hl (by decide) rfl (fun ls hl => ?_)
      refine lv_iconst (v := 2) hx hb dL_repair_19 (by decide) ?_
      exact zo_i hx hb hr hlocks (by rw [h0]; rfl) ⟨by rw [k_nS_1 hr0, k_nD_1 hr0]; exact ⟨hO, hW, hWD⟩, by rw [if_neg hr0]; exact hT⟩ hS (Nat.le_of_ble_eq_true rfl) (Nat.le_of_ble_eq_true rfl) dL_repair_20
    · rw [hE0, h0] at hcl
      refine vx_catch (E := "java/lang/IllegalArgumentException") (name := "java/lang/IllegalArgumentException") X.2.2.1 [zte 0 10 13 21, zte 0 10 17 37] (zte 0 10 21 13) [] (hex.trans rfl) (List.forall_mem_cons.mpr ⟨Or.inr ⟨by decide, "java/lang/IndexOutOfBoundsException", X.2.2.2 _ m_796, hN 2 1 (by decide) (by decide) (by decide) (by decide) (by decide)⟩, (List.forall_mem_cons.mpr ⟨Or.inr ⟨by decide, "java/lang/UnsupportedOperationException", X.2.2.2 _ m_845, hN 2 3 (by decide) (by decide) (by decide) (by decide) (by decide)⟩, (fun _ h => nomatch h)⟩)⟩) (by decide) (by decide) (X.2.2.2 _ m_645) (zcastX (X.2.2.2 _ m_17)) hce hcv hcl (?_ : W p l e _ s m _ below meth c _ _ _ _ _ (F0 m 21 ls [.ref q9]))
      refine lv_astore (lv' := [(4, .ref q9), (0, .ref sb), (1, .int w1), (2, .int w2), (3, .ref ob)]) hx hb dL_repair_21 hl (by decide) rfl (fun ls hl => ?_)
      refine lv_iconst (v := 3) hx hb dL_repair_23 (by decide) ?_
      exact zo_i hx hb hr hlocks (by rw [h0]; rfl) ⟨by rw [k_nS_1 hr0, k_nD_1 hr0]; exact ⟨hO, hW, hWD⟩, by rw [if_neg hr0]; exact hT⟩ hS (Nat.le_of_ble_eq_true rfl) (Nat.le_of_ble_eq_true rfl) dL_repair_24
  · obtain ⟨hO, hW, hWD⟩ := hG9
    replace hT := hT.kept (fun hq => hfr _ hq hob.1)
    refine lv_i2l hx hb dL_repair_8 rfl ?_
    refine zoL X hK hT hS (Or.inr rfl) dL_repair_9 (fun H locs hT hz9 hfr9 hS => ?_)
    have hO := zO.kept hO (fun _ => hfr9 sb (Ne.symm hob.2))
    have hW := zW.kept hW (fun q hq => hfr9 q (fun z => hob.1 (Or.inl (by rw [← z]; exact hq))))
    have hWD := zW.kept hWD (fun q hq => hfr9 q (fun z => hob.1 (Or.inr (by rw [← z]; exact hq))))
    refine lv_goto (tgt := 25) hx hb dL_repair_10 (by decide) ?_
    refine lv_iconst (v := 0) hx hb dL_repair_25 (by decide) ?_
    exact zo_i hx hb hr hlocks (by rw [h0]; rfl) ⟨by rw [k_nS_0 h0, k_nD_0 h0]; exact ⟨hO, hW, hWD⟩, by rw [if_pos h0]; exact hT⟩ hS (Nat.le_of_ble_eq_true rfl) (Nat.le_of_ble_eq_true rfl) dL_repair_26
theorem zr_17 (σ : zS) (w1 w2 w3 w4 : Int32) : k_ref σ (nI 17) w1 w2 w3 w4 = 0 ∨ k_ref σ (nI 17) w1 w2 w3 w4 = 1 ∨ k_ref σ (nI 17) w1 w2 w3 w4 = 3 := by
  rw [show nI 17 = 17 from rfl, k_ref_17]
  suffices h : (fun r : Nat => r = 0 ∨ r = 1 ∨ r = 3) (r_X8_refusalOf_17 σ w1 w2 w3 w4) from h
  unfold r_X8_refusalOf_17 r_X8_ofCanopyIn
  repeat' (first | refine zite (P := fun r : Nat => r = 0 ∨ r = 1 ∨ r = 3) ?_ ?_ | exact (by decide))
theorem zmL_drop : zmW yL_drop RL cL_drop 5 (some .int) [(0, 10, 13, 21), (0, 10, 17, 37)] 4 := ⟨m_941, m_0, m_942, rfl, by decide, by decide, by decide +kernel⟩
set_option maxRecDepth 100000 in
set_option maxHeartbeats 4000000 in
theorem ctL_drop (l : Launch) (hl0 : l.stackTraces = false) (D : va_G) (cy : Nat → ClassId) (rf : Nat → Nat) (sb ag : Nat) (ad : Nat → Nat → Nat) (σ : zS) (adD : Nat → Nat → Nat) (δ : zS) (hJ : zJ sb ad adD) (ob : Nat) (w0 : Int64) (hob : ¬ zRA ad adD ob ∧ ob ≠ sb) (w1 : Int32) (w2 : Bool) (hV : zV σ) (hc : zbd δ 200 512) (hfull : k_full δ = false) : Met l yL_drop (zww yL_drop cL_drop 5 (some .int) [(0, 10, 13, 21), (0, 10, 17, 37)]) (zrx 9 1 6) (va_Pc [.ref sb, .int w1, .int (bI w2), .ref ob] (zBN D cy rf (fun H => zSA D cy sb ag ad σ adD δ H ∧ zT D cy ob w0 H))) (zqM (some (.int (zkc [1, 3] (k_ref σ (nI 17) w1 (bI w2) 0 0)))) (fun H => zSA D cy sb ag ad (k_nS σ 17 w1 (bI w2) 0 0) adD (k_nD σ δ 17 w1 (bI w2) 0 0) H ∧ zT D cy ob (if k_ref σ (nI 17) w1 (bI w2) 0 0 = 0 then (k_pr σ (nI 17) w1 (bI w2) 0 0).toInt64 else w0) H) (zRO ad adD ob)) 1 6 (zRO ad adD ob) := by
  refine zmetW (by decide) rfl (Nat.le_of_ble_eq_true rfl) rfl (fun p e s m below meth c ls X hml hr hlocks hex hv hl => ?_)
  obtain ⟨hK, hE, hN, ⟨hO, hW, hWD⟩, hT⟩ := hv
  obtain ⟨hx, hb, -, -⟩ := id X
  have hl : lv_has ls 5 [(0, .ref sb), (1, .int w1), (2, .int (bI w2)), (3, .ref ob)] := hl
  have hS : va_S (zRO ad adD ob) s.heap s.heap [] := va_S.rf
  refine lv_aload_n hx hb dL_drop_0 rfl (lv_at hl 3 rfl) ?_
  refine lv_iconst (v := 0) hx hb dL_drop_1 (by decide) ?_
  refine lv_aload_n hx hb dL_drop_2 rfl (lv_at hl 0 rfl) ?_
  refine lv_iload_n hx hb dL_drop_3 rfl (lv_at hl 1 rfl) ?_
  refine lv_iload_n hx hb dL_drop_4 rfl (lv_at hl 2 rfl) ?_
  refine zcallCV (As := [.int w1, .int (bI w2)]) (rest := [.int 0, .ref ob]) X hml hK hE ⟨hO, hW, hWD⟩ (ctX9_drop l hl0 D cy rf sb ag ad σ adD δ hJ w1 w2 hV hc hfull) zmX9_drop (by decide) m_943 (zrecv hK hO rfl) ⟨(Nat.le_of_ble_eq_true rfl), (Nat.le_of_ble_eq_true rfl)⟩ ⟨(Nat.le_of_ble_eq_true rfl), (Nat.le_of_ble_eq_true rfl)⟩ rfl hl.1 rfl (Nat.le_of_ble_eq_true rfl) dL_drop_5 hS (fun _ h => Or.inl h) (fun E ce q9 H locs hr0 hE0 hsz hfr hS hce hcv hcl => ?_) (fun h0 H locs hG9 hsz hfr hS => ?_)
  · replace hO := zO.kept hO (fun hq => hfr _ hq)
    replace hW := zW.kept hW (fun q hq => hfr q (hW.lt hq))
    replace hWD := zW.kept hWD (fun q hq => hfr q (hWD.lt hq))
    replace hT := hT.kept (fun hq => hfr _ hq)
    rcases (zr_17 σ w1 (bI w2) 0 0) with h0 | h0 | h0
    · exact absurd h0 hr0
    · rw [hE0, h0] at hcl
      refine vx_catch (E := "java/lang/IndexOutOfBoundsException") (name := "java/lang/IndexOutOfBoundsException") X.2.2.1 [] (zte 0 10 13 21) [zte 0 10 17 37] (hex.trans rfl) (fun _ h => nomatch h) (by decide) (by decide) (X.2.2.2 _ m_796) (zcastX (X.2.2.2 _ m_16)) hce hcv hcl (?_ : W p l e _ s m _ below meth c _ _ _ _ _ (F0 m 13 ls [.ref q9]))
      refine lv_astore (lv' := [(4, .ref q9), (0, .ref sb), (1, .int w1), (2, .int (bI w2)), (3, .ref ob)]) hx hb dL_drop_13 hl (by decide) rfl (fun ls hl => ?_)
      refine lv_iconst (v := 1) hx hb dL_drop_15 (by decide) ?_
      exact zo_i hx hb hr hlocks (by rw [h0]; rfl) ⟨by rw [k_nS_1 hr0, k_nD_1 hr0]; exact ⟨hO, hW, hWD⟩, by rw [if_neg hr0]; exact hT⟩ hS (Nat.le_of_ble_eq_true rfl) (Nat.le_of_ble_eq_true rfl) dL_drop_16
    · rw [hE0, h0] at hcl
      refine vx_catch (E := "java/lang/UnsupportedOperationException") (name := "java/lang/UnsupportedOperationException") X.2.2.1 [zte 0 10 13 21] (zte 0 10 17 37) [] (hex.trans rfl) (List.forall_mem_cons.mpr ⟨Or.inr ⟨by decide, "java/lang/IndexOutOfBoundsException", X.2.2.2 _ m_796, hN 3 1 (by decide) (by decide) (by decide) (by decide) (by decide)⟩, (fun _ h => nomatch h)⟩) (by decide) (by decide) (X.2.2.2 _ m_845) (zcastX (X.2.2.2 _ m_18)) hce hcv hcl (?_ : W p l e _ s m _ below meth c _ _ _ _ _ (F0 m 17 ls [.ref q9]))
      refine lv_astore (lv' := [(4, .ref q9), (0, .ref sb), (1, .int w1), (2, .int (bI w2)), (3, .ref ob)]) hx hb dL_drop_17 hl (by decide) rfl (fun ls hl => ?_)
      refine lv_iconst (v := 2) hx hb dL_drop_19 (by decide) ?_
      exact zo_i hx hb hr hlocks (by rw [h0]; rfl) ⟨by rw [k_nS_1 hr0, k_nD_1 hr0]; exact ⟨hO, hW, hWD⟩, by rw [if_neg hr0]; exact hT⟩ hS (Nat.le_of_ble_eq_true rfl) (Nat.le_of_ble_eq_true rfl) dL_drop_20
  · obtain ⟨hO, hW, hWD⟩ := hG9
    replace hT := hT.kept (fun hq => hfr _ hq hob.1)
    refine lv_i2l hx hb dL_drop_8 rfl ?_
    refine zoL X hK hT hS (Or.inr rfl) dL_drop_9 (fun H locs hT hz9 hfr9 hS => ?_)
    have hO := zO.kept hO (fun _ => hfr9 sb (Ne.symm hob.2))
    have hW := zW.kept hW (fun q hq => hfr9 q (fun z => hob.1 (Or.inl (by rw [← z]; exact hq))))
    have hWD := zW.kept hWD (fun q hq => hfr9 q (fun z => hob.1 (Or.inr (by rw [← z]; exact hq))))
    refine lv_goto (tgt := 21) hx hb dL_drop_10 (by decide) ?_
    refine lv_iconst (v := 0) hx hb dL_drop_21 (by decide) ?_
    exact zo_i hx hb hr hlocks (by rw [h0]; rfl) ⟨by rw [k_nS_0 h0, k_nD_0 h0]; exact ⟨hO, hW, hWD⟩, by rw [if_pos h0]; exact hT⟩ hS (Nat.le_of_ble_eq_true rfl) (Nat.le_of_ble_eq_true rfl) dL_drop_22
theorem zr_18 (σ : zS) (w1 w2 w3 w4 : Int32) : k_ref σ (nI 18) w1 w2 w3 w4 = 0 ∨ k_ref σ (nI 18) w1 w2 w3 w4 = 1 ∨ k_ref σ (nI 18) w1 w2 w3 w4 = 2 ∨ k_ref σ (nI 18) w1 w2 w3 w4 = 3 := by
  rw [show nI 18 = 18 from rfl, k_ref_18]
  suffices h : (fun r : Nat => r = 0 ∨ r = 1 ∨ r = 2 ∨ r = 3) (r_X8_refusalOf_18 σ w1 w2 w3 w4) from h
  unfold r_X8_refusalOf_18 r_X8_ofHire
  repeat' (first | refine zite (P := fun r : Nat => r = 0 ∨ r = 1 ∨ r = 2 ∨ r = 3) ?_ ?_ | exact (by decide))
theorem zmL_hire : zmW yL_hire RL cL_hire 6 (some .int) [(0, 12, 15, 21), (0, 12, 19, 13), (0, 12, 23, 37)] 5 := ⟨m_948, m_0, m_949, rfl, by decide, by decide, by decide +kernel⟩
set_option maxRecDepth 100000 in
set_option maxHeartbeats 4000000 in
theorem ctL_hire (l : Launch) (hl0 : l.stackTraces = false) (D : va_G) (cy : Nat → ClassId) (rf : Nat → Nat) (sb ag : Nat) (ad : Nat → Nat → Nat) (σ : zS) (adD : Nat → Nat → Nat) (δ : zS) (hJ : zJ sb ad adD) (ob : Nat) (w0 : Int64) (hob : ¬ zRA ad adD ob ∧ ob ≠ sb) (w1 : Int32) (w2 : Int32) (w3 : Int32) (hV : zV σ) (hc : zbd δ 200 512) (hfull : k_full δ = false) : Met l yL_hire (zww yL_hire cL_hire 6 (some .int) [(0, 12, 15, 21), (0, 12, 19, 13), (0, 12, 23, 37)]) (zrx 9 1 6) (va_Pc [.ref sb, .int w1, .int w2, .int w3, .ref ob] (zBN D cy rf (fun H => zSA D cy sb ag ad σ adD δ H ∧ zT D cy ob w0 H))) (zqM (some (.int (zkc [1, 2, 3] (k_ref σ (nI 18) w1 w2 w3 0)))) (fun H => zSA D cy sb ag ad (k_nS σ 18 w1 w2 w3 0) adD (k_nD σ δ 18 w1 w2 w3 0) H ∧ zT D cy ob (if k_ref σ (nI 18) w1 w2 w3 0 = 0 then (k_pr σ (nI 18) w1 w2 w3 0).toInt64 else w0) H) (zRO ad adD ob)) 1 6 (zRO ad adD ob) := by
  refine zmetW (by decide) rfl (Nat.le_of_ble_eq_true rfl) rfl (fun p e s m below meth c ls X hml hr hlocks hex hv hl => ?_)
  obtain ⟨hK, hE, hN, ⟨hO, hW, hWD⟩, hT⟩ := hv
  obtain ⟨hx, hb, -, -⟩ := id X
  have hl : lv_has ls 6 [(0, .ref sb), (1, .int w1), (2, .int w2), (3, .int w3), (4, .ref ob)] := hl
  have hS : va_S (zRO ad adD ob) s.heap s.heap [] := va_S.rf
  refine lv_aload hx hb dL_hire_0 (lv_at hl 4 rfl) ?_
  refine lv_iconst (v := 0) hx hb dL_hire_2 (by decide) ?_
  refine lv_aload_n hx hb dL_hire_3 rfl (lv_at hl 0 rfl) ?_
  refine lv_iload_n hx hb dL_hire_4 rfl (lv_at hl 1 rfl) ?_
  refine lv_iload_n hx hb dL_hire_5 rfl (lv_at hl 2 rfl) ?_
  refine lv_iload_n hx hb dL_hire_6 rfl (lv_at hl 3 rfl) ?_
  refine zcallCV (As := [.int w1, .int w2, .int w3]) (rest := [.int 0, .ref ob]) X hml hK hE ⟨hO, hW, hWD⟩ (ctX9_hire l hl0 D cy rf sb ag ad σ adD δ hJ w1 w2 w3 hV hc hfull) zmX9_hire (by decide) m_950 (zrecv hK hO rfl) ⟨(Nat.le_of_ble_eq_true rfl), (Nat.le_of_ble_eq_true rfl)⟩ ⟨(Nat.le_of_ble_eq_true rfl), (Nat.le_of_ble_eq_true rfl)⟩ rfl hl.1 rfl (Nat.le_of_ble_eq_true rfl) dL_hire_7 hS (fun _ h => Or.inl h) (fun E ce q9 H locs hr0 hE0 hsz hfr hS hce hcv hcl => ?_) (fun h0 H locs hG9 hsz hfr hS => ?_)
  · replace hO := zO.kept hO (fun hq => hfr _ hq)
    replace hW := zW.kept hW (fun q hq => hfr q (hW.lt hq))
    replace hWD := zW.kept hWD (fun q hq => hfr q (hWD.lt hq))
    replace hT := hT.kept (fun hq => hfr _ hq)
    rcases (zr_18 σ w1 w2 w3 0) with h0 | h0 | h0 | h0
    · exact absurd h0 hr0
    · rw [hE0, h0] at hcl
      refine vx_catch (E := "java/lang/IndexOutOfBoundsException") (name := "java/lang/IndexOutOfBoundsException") X.2.2.1 [] (zte 0 12 15 21) [zte 0 12 19 13, zte 0 12 23 37] (hex.trans rfl) (fun _ h => nomatch h) (by decide) (by decide) (X.2.2.2 _ m_796) (zcastX (X.2.2.2 _ m_16)) hce hcv hcl (?_ : W p l e _ s m _ below meth c _ _ _ _ _ (F0 m 15 ls [.ref q9]))
      refine lv_astore (lv' := [(5, .ref q9), (0, .ref sb), (1, .int w1), (2, .int w2), (3, .int w3), (4, .ref ob)]) hx hb dL_hire_15 hl (by decide) rfl (fun ls hl => ?_)
      refine lv_iconst (v := 1) hx hb dL_hire_17 (by decide) ?_
      exact zo_i hx hb hr hlocks (by rw [h0]; rfl) ⟨by rw [k_nS_1 hr0, k_nD_1 hr0]; exact ⟨hO, hW, hWD⟩, by rw [if_neg hr0]; exact hT⟩ hS (Nat.le_of_ble_eq_true rfl) (Nat.le_of_ble_eq_true rfl) dL_hire_18
    · rw [hE0, h0] at hcl
      refine vx_catch (E := "java/lang/IllegalArgumentException") (name := "java/lang/IllegalArgumentException") X.2.2.1 [zte 0 12 15 21] (zte 0 12 19 13) [zte 0 12 23 37] (hex.trans rfl) (List.forall_mem_cons.mpr ⟨Or.inr ⟨by decide, "java/lang/IndexOutOfBoundsException", X.2.2.2 _ m_796, hN 2 1 (by decide) (by decide) (by decide) (by decide) (by decide)⟩, (fun _ h => nomatch h)⟩) (by decide) (by decide) (X.2.2.2 _ m_645) (zcastX (X.2.2.2 _ m_17)) hce hcv hcl (?_ : W p l e _ s m _ below meth c _ _ _ _ _ (F0 m 19 ls [.ref q9]))
      refine lv_astore (lv' := [(5, .ref q9), (0, .ref sb), (1, .int w1), (2, .int w2), (3, .int w3), (4, .ref ob)]) hx hb dL_hire_19 hl (by decide) rfl (fun ls hl => ?_)
      refine lv_iconst (v := 2) hx hb dL_hire_21 (by decide) ?_
      exact zo_i hx hb hr hlocks (by rw [h0]; rfl) ⟨by rw [k_nS_1 hr0, k_nD_1 hr0]; exact ⟨hO, hW, hWD⟩, by rw [if_neg hr0]; exact hT⟩ hS (Nat.le_of_ble_eq_true rfl) (Nat.le_of_ble_eq_true rfl) dL_hire_22
    · rw [hE0, h0] at hcl
      refine vx_catch (E := "java/lang/UnsupportedOperationException") (name := "java/lang/UnsupportedOperationException") X.2.2.1 [zte 0 12 15 21, zte 0 12 19 13] (zte 0 12 23 37) [] (hex.trans rfl) (List.forall_mem_cons.mpr ⟨Or.inr ⟨by decide, "java/lang/IndexOutOfBoundsException", X.2.2.2 _ m_796, hN 3 1 (by decide) (by decide) (by decide) (by decide) (by decide)⟩, (List.forall_mem_cons.mpr ⟨Or.inr ⟨by decide, "java/lang/IllegalArgumentException", X.2.2.2 _ m_645, hN 3 2 (by decide) (by decide) (by decide) (by decide) (by decide)⟩, (fun _ h => nomatch h)⟩)⟩) (by decide) (by decide) (X.2.2.2 _ m_845) (zcastX (X.2.2.2 _ m_18)) hce hcv hcl (?_ : W p l e _ s m _ below meth c _ _ _ _ _ (F0 m 23 ls [.ref q9]))
      refine lv_astore (lv' := [(5, .ref q9), (0, .ref sb), (1, .int w1), (2, .int w2), (3, .int w3), (4, .ref ob)]) hx hb dL_hire_23 hl (by decide) rfl (fun ls hl => ?_)
      refine lv_iconst (v := 3) hx hb dL_hire_25 (by decide) ?_
      exact zo_i hx hb hr hlocks (by rw [h0]; rfl) ⟨by rw [k_nS_1 hr0, k_nD_1 hr0]; exact ⟨hO, hW, hWD⟩, by rw [if_neg hr0]; exact hT⟩ hS (Nat.le_of_ble_eq_true rfl) (Nat.le_of_ble_eq_true rfl) dL_hire_26
  · obtain ⟨hO, hW, hWD⟩ := hG9
    replace hT := hT.kept (fun hq => hfr _ hq hob.1)
    refine lv_i2l hx hb dL_hire_10 rfl ?_
    refine zoL X hK hT hS (Or.inr rfl) dL_hire_11 (fun H locs hT hz9 hfr9 hS => ?_)
    have hO := zO.kept hO (fun _ => hfr9 sb (Ne.symm hob.2))
    have hW := zW.kept hW (fun q hq => hfr9 q (fun z => hob.1 (Or.inl (by rw [← z]; exact hq))))
    have hWD := zW.kept hWD (fun q hq => hfr9 q (fun z => hob.1 (Or.inr (by rw [← z]; exact hq))))
    refine lv_goto (tgt := 27) hx hb dL_hire_12 (by decide) ?_
    refine lv_iconst (v := 0) hx hb dL_hire_27 (by decide) ?_
    exact zo_i hx hb hr hlocks (by rw [h0]; rfl) ⟨by rw [k_nS_0 h0, k_nD_0 h0]; exact ⟨hO, hW, hWD⟩, by rw [if_pos h0]; exact hT⟩ hS (Nat.le_of_ble_eq_true rfl) (Nat.le_of_ble_eq_true rfl) dL_hire_28
theorem zr_19 (σ : zS) (w1 w2 w3 w4 : Int32) : k_ref σ (nI 19) w1 w2 w3 w4 = 0 ∨ k_ref σ (nI 19) w1 w2 w3 w4 = 1 ∨ k_ref σ (nI 19) w1 w2 w3 w4 = 3 := by
  rw [show nI 19 = 19 from rfl, k_ref_19]
  suffices h : (fun r : Nat => r = 0 ∨ r = 1 ∨ r = 3) (r_X8_refusalOf_19 σ w1 w2 w3 w4) from h
  unfold r_X8_refusalOf_19 r_X8_ofCanopyIn
  repeat' (first | refine zite (P := fun r : Nat => r = 0 ∨ r = 1 ∨ r = 3) ?_ ?_ | exact (by decide))
theorem zmL_back : zmW yL_back RL cL_back 6 (some .int) [(0, 12, 15, 21), (0, 12, 19, 37)] 5 := ⟨m_955, m_0, m_956, rfl, by decide, by decide, by decide +kernel⟩
set_option maxRecDepth 100000 in
set_option maxHeartbeats 4000000 in
theorem ctL_back (l : Launch) (hl0 : l.stackTraces = false) (D : va_G) (cy : Nat → ClassId) (rf : Nat → Nat) (sb ag : Nat) (ad : Nat → Nat → Nat) (σ : zS) (adD : Nat → Nat → Nat) (δ : zS) (hJ : zJ sb ad adD) (ob : Nat) (w0 : Int64) (hob : ¬ zRA ad adD ob ∧ ob ≠ sb) (w1 : Int32) (w2 : Bool) (w3 : Bool) (hV : zV σ) (hc : zbd δ 200 512) (hfull : k_full δ = false) : Met l yL_back (zww yL_back cL_back 6 (some .int) [(0, 12, 15, 21), (0, 12, 19, 37)]) (zrx 9 1 6) (va_Pc [.ref sb, .int w1, .int (bI w2), .int (bI w3), .ref ob] (zBN D cy rf (fun H => zSA D cy sb ag ad σ adD δ H ∧ zT D cy ob w0 H))) (zqM (some (.int (zkc [1, 3] (k_ref σ (nI 19) w1 (bI w2) (bI w3) 0)))) (fun H => zSA D cy sb ag ad (k_nS σ 19 w1 (bI w2) (bI w3) 0) adD (k_nD σ δ 19 w1 (bI w2) (bI w3) 0) H ∧ zT D cy ob (if k_ref σ (nI 19) w1 (bI w2) (bI w3) 0 = 0 then (k_pr σ (nI 19) w1 (bI w2) (bI w3) 0).toInt64 else w0) H) (zRO ad adD ob)) 1 6 (zRO ad adD ob) := by
  refine zmetW (by decide) rfl (Nat.le_of_ble_eq_true rfl) rfl (fun p e s m below meth c ls X hml hr hlocks hex hv hl => ?_)
  obtain ⟨hK, hE, hN, ⟨hO, hW, hWD⟩, hT⟩ := hv
  obtain ⟨hx, hb, -, -⟩ := id X
  have hl : lv_has ls 6 [(0, .ref sb), (1, .int w1), (2, .int (bI w2)), (3, .int (bI w3)), (4, .ref ob)] := hl
  have hS : va_S (zRO ad adD ob) s.heap s.heap [] := va_S.rf
  refine lv_aload hx hb dL_back_0 (lv_at hl 4 rfl) ?_
  refine lv_iconst (v := 0) hx hb dL_back_2 (by decide) ?_
  refine lv_aload_n hx hb dL_back_3 rfl (lv_at hl 0 rfl) ?_
  refine lv_iload_n hx hb dL_back_4 rfl (lv_at hl 1 rfl) ?_
  refine lv_iload_n hx hb dL_back_5 rfl (lv_at hl 2 rfl) ?_
  refine lv_iload_n hx hb dL_back_6 rfl (lv_at hl 3 rfl) ?_
  refine zcallCV (As := [.int w1, .int (bI w2), .int (bI w3)]) (rest := [.int 0, .ref ob]) X hml hK hE ⟨hO, hW, hWD⟩ (ctX9_back l hl0 D cy rf sb ag ad σ adD δ hJ w1 w2 w3 hV hc hfull) zmX9_back (by decide) m_957 (zrecv hK hO rfl) ⟨(Nat.le_of_ble_eq_true rfl), (Nat.le_of_ble_eq_true rfl)⟩ ⟨(Nat.le_of_ble_eq_true rfl), (Nat.le_of_ble_eq_true rfl)⟩ rfl hl.1 rfl (Nat.le_of_ble_eq_true rfl) dL_back_7 hS (fun _ h => Or.inl h) (fun E ce q9 H locs hr0 hE0 hsz hfr hS hce hcv hcl => ?_) (fun h0 H locs hG9 hsz hfr hS => ?_)
  · replace hO := zO.kept hO (fun hq => hfr _ hq)
    replace hW := zW.kept hW (fun q hq => hfr q (hW.lt hq))
    replace hWD := zW.kept hWD (fun q hq => hfr q (hWD.lt hq))
    replace hT := hT.kept (fun hq => hfr _ hq)
    rcases (zr_19 σ w1 (bI w2) (bI w3) 0) with h0 | h0 | h0
    · exact absurd h0 hr0
    · rw [hE0, h0] at hcl
      refine vx_catch (E := "java/lang/IndexOutOfBoundsException") (name := "java/lang/IndexOutOfBoundsException") X.2.2.1 [] (zte 0 12 15 21) [zte 0 12 19 37] (hex.trans rfl) (fun _ h => nomatch h) (by decide) (by decide) (X.2.2.2 _ m_796) (zcastX (X.2.2.2 _ m_16)) hce hcv hcl (?_ : W p l e _ s m _ below meth c _ _ _ _ _ (F0 m 15 ls [.ref q9]))
      refine lv_astore (lv' := [(5, .ref q9), (0, .ref sb), (1, .int w1), (2, .int (bI w2)), (3, .int (bI w3)), (4, .ref ob)]) hx hb dL_back_15 hl (by decide) rfl (fun ls hl => ?_)
      refine lv_iconst (v := 1) hx hb dL_back_17 (by decide) ?_
      exact zo_i hx hb hr hlocks (by rw [h0]; rfl) ⟨by rw [k_nS_1 hr0, k_nD_1 hr0]; exact ⟨hO, hW, hWD⟩, by rw [if_neg hr0]; exact hT⟩ hS (Nat.le_of_ble_eq_true rfl) (Nat.le_of_ble_eq_true rfl) dL_back_18
    · rw [hE0, h0] at hcl
      refine vx_catch (E := "java/lang/UnsupportedOperationException") (name := "java/lang/UnsupportedOperationException") X.2.2.1 [zte 0 12 15 21] (zte 0 12 19 37) [] (hex.trans rfl) (List.forall_mem_cons.mpr ⟨Or.inr ⟨by decide, "java/lang/IndexOutOfBoundsException", X.2.2.2 _ m_796, hN 3 1 (by decide) (by decide) (by decide) (by decide) (by decide)⟩, (fun _ h => nomatch h)⟩) (by decide) (by decide) (X.2.2.2 _ m_845) (zcastX (X.2.2.2 _ m_18)) hce hcv hcl (?_ : W p l e _ s m _ below meth c _ _ _ _ _ (F0 m 19 ls [.ref q9]))
      refine lv_astore (lv' := [(5, .ref q9), (0, .ref sb), (1, .int w1), (2, .int (bI w2)), (3, .int (bI w3)), (4, .ref ob)]) hx hb dL_back_19 hl (by decide) rfl (fun ls hl => ?_)
      refine lv_iconst (v := 2) hx hb dL_back_21 (by decide) ?_
      exact zo_i hx hb hr hlocks (by rw [h0]; rfl) ⟨by rw [k_nS_1 hr0, k_nD_1 hr0]; exact ⟨hO, hW, hWD⟩, by rw [if_neg hr0]; exact hT⟩ hS (Nat.le_of_ble_eq_true rfl) (Nat.le_of_ble_eq_true rfl) dL_back_22
  · obtain ⟨hO, hW, hWD⟩ := hG9
    replace hT := hT.kept (fun hq => hfr _ hq hob.1)
    refine lv_i2l hx hb dL_back_10 rfl ?_
    refine zoL X hK hT hS (Or.inr rfl) dL_back_11 (fun H locs hT hz9 hfr9 hS => ?_)
    have hO := zO.kept hO (fun _ => hfr9 sb (Ne.symm hob.2))
    have hW := zW.kept hW (fun q hq => hfr9 q (fun z => hob.1 (Or.inl (by rw [← z]; exact hq))))
    have hWD := zW.kept hWD (fun q hq => hfr9 q (fun z => hob.1 (Or.inr (by rw [← z]; exact hq))))
    refine lv_goto (tgt := 23) hx hb dL_back_12 (by decide) ?_
    refine lv_iconst (v := 0) hx hb dL_back_23 (by decide) ?_
    exact zo_i hx hb hr hlocks (by rw [h0]; rfl) ⟨by rw [k_nS_0 h0, k_nD_0 h0]; exact ⟨hO, hW, hWD⟩, by rw [if_pos h0]; exact hT⟩ hS (Nat.le_of_ble_eq_true rfl) (Nat.le_of_ble_eq_true rfl) dL_back_24
theorem zr_at (σ : zS) (x : Int32) : k_at σ x = 0 ∨ k_at σ x = 1 := by unfold k_at; split <;> simp
theorem zr_atF (σ : zS) (x : Int32) : k_atF σ x = 0 ∨ k_atF σ x = 1 := by unfold k_atF; split <;> simp
theorem zr_pkr (σ : zS) (x j w : Int32) : k_pkr σ x j w = 0 ∨ k_pkr σ x j w = 1 ∨ k_pkr σ x j w = 2 := by unfold k_pkr; (repeat' split) <;> simp
theorem zr_nx (σ : zS) : k_nxr σ = 0 ∨ k_nxr σ = 5 := by unfold k_nxr; split <;> simp
theorem zmL_grounds : zmW yL_grounds RL cL_grounds 4 (some .int) [(0, 9, 12, 21)] 3 := ⟨m_921, m_0, m_922, rfl, by decide, by decide, by decide +kernel⟩
set_option maxRecDepth 100000 in
set_option maxHeartbeats 4000000 in
theorem ctL_grounds (l : Launch) (hl0 : l.stackTraces = false) (D : va_G) (cy : Nat → ClassId) (rf : Nat → Nat) (sb ag : Nat) (ad : Nat → Nat → Nat) (σ : zS) (adD : Nat → Nat → Nat) (δ : zS) (ob : Nat) (w0 : Int64) (hob : ¬ zRA ad adD ob ∧ ob ≠ sb) (x : Int32) (hV : zV σ) : Met l yL_grounds (zww yL_grounds cL_grounds 4 (some .int) [(0, 9, 12, 21)]) (zrx 9 1 6) (va_Pc [.ref sb, .int x, .ref ob] (zBN D cy rf (fun H => zSA D cy sb ag ad σ adD δ H ∧ zT D cy ob w0 H))) (zqM (some (.int (zkc [1] (k_atF σ x)))) (fun H => zSA D cy sb ag ad σ adD δ H ∧ zT D cy ob (if k_atF σ x = 0 then (nI (k_cntG σ x.toNatClampNeg)).toInt64 else w0) H) (zRO ad adD ob)) 1 6 (zRO ad adD ob) := by
  refine zmetW (by decide) rfl (Nat.le_of_ble_eq_true rfl) rfl (fun p e s m below meth c ls X hml hr hlocks hex hv hl => ?_)
  obtain ⟨hK, hE, hN, ⟨hO, hW, hWD⟩, hT⟩ := hv
  obtain ⟨hx, hb, -, -⟩ := id X
  have hl : lv_has ls 4 [(0, .ref sb), (1, .int x), (2, .ref ob)] := hl
  have hS : va_S (zRO ad adD ob) s.heap s.heap [] := va_S.rf
  refine lv_aload_n hx hb dL_grounds_0 rfl (lv_at hl 2 rfl) ?_
  refine lv_iconst (v := 0) hx hb dL_grounds_1 (by decide) ?_
  refine lv_aload_n hx hb dL_grounds_2 rfl (lv_at hl 0 rfl) ?_
  refine lv_iload_n hx hb dL_grounds_3 rfl (lv_at hl 1 rfl) ?_
  refine zcallCV (As := [.int x]) (rest := [.int 0, .ref ob]) X hml hK hE ⟨hO, hW, hWD⟩ (ctX9_grounds l hl0 D cy rf sb ag ad σ adD δ x hV) zmX9_grounds (by decide) m_923 (zrecv hK hO rfl) ⟨(Nat.le_of_ble_eq_true rfl), (Nat.le_of_ble_eq_true rfl)⟩ ⟨(Nat.le_of_ble_eq_true rfl), (Nat.le_of_ble_eq_true rfl)⟩ rfl hl.1 rfl (Nat.le_of_ble_eq_true rfl) dL_grounds_4 hS (fun _ h => h.elim) (fun E ce q9 H locs hr0 hE0 hsz hfr hS hce hcv hcl => ?_) (fun h0 H locs hG9 hsz hfr hS => ?_)
  · replace hO := zO.kept hO (fun hq => hfr _ hq)
    replace hW := zW.kept hW (fun q hq => hfr q (hW.lt hq))
    replace hWD := zW.kept hWD (fun q hq => hfr q (hWD.lt hq))
    replace hT := hT.kept (fun hq => hfr _ hq)
    rcases (zr_atF σ x) with h0 | h0
    · exact absurd h0 hr0
    · rw [hE0, h0] at hcl
      refine vx_catch (E := "java/lang/IndexOutOfBoundsException") (name := "java/lang/IndexOutOfBoundsException") X.2.2.1 [] (zte 0 9 12 21) [] (hex.trans rfl) (fun _ h => nomatch h) (by decide) (by decide) (X.2.2.2 _ m_796) (zcastX (X.2.2.2 _ m_16)) hce hcv hcl (?_ : W p l e _ s m _ below meth c _ _ _ _ _ (F0 m 12 ls [.ref q9]))
      refine lv_astore_n (lv' := [(3, .ref q9), (0, .ref sb), (1, .int x), (2, .ref ob)]) hx hb dL_grounds_12 rfl hl (by decide) rfl (fun ls hl => ?_)
      refine lv_iconst (v := 1) hx hb dL_grounds_13 (by decide) ?_
      exact zo_i hx hb hr hlocks (by rw [h0]; rfl) ⟨⟨hO, hW, hWD⟩, by rw [if_neg hr0]; exact hT⟩ hS (Nat.le_of_ble_eq_true rfl) (Nat.le_of_ble_eq_true rfl) dL_grounds_14
  · obtain ⟨hO, hW, hWD⟩ := hG9
    replace hT := hT.kept (fun hq => hfr _ hq (fun z => z))
    refine lv_i2l hx hb dL_grounds_7 rfl ?_
    refine zoL X hK hT hS (Or.inr rfl) dL_grounds_8 (fun H locs hT hz9 hfr9 hS => ?_)
    have hO := zO.kept hO (fun _ => hfr9 sb (Ne.symm hob.2))
    have hW := zW.kept hW (fun q hq => hfr9 q (fun z => hob.1 (Or.inl (by rw [← z]; exact hq))))
    have hWD := zW.kept hWD (fun q hq => hfr9 q (fun z => hob.1 (Or.inr (by rw [← z]; exact hq))))
    refine lv_goto (tgt := 15) hx hb dL_grounds_9 (by decide) ?_
    refine lv_iconst (v := 0) hx hb dL_grounds_15 (by decide) ?_
    exact zo_i hx hb hr hlocks (by rw [h0]; rfl) ⟨⟨hO, hW, hWD⟩, by rw [if_pos h0]; exact hT⟩ hS (Nat.le_of_ble_eq_true rfl) (Nat.le_of_ble_eq_true rfl) dL_grounds_16
theorem zmL_stateOf : zmW yL_stateOf RL cL_stateOf 4 (some .int) [(0, 9, 12, 21)] 3 := ⟨m_962, m_0, m_963, rfl, by decide, by decide, by decide +kernel⟩
set_option maxRecDepth 100000 in
set_option maxHeartbeats 4000000 in
theorem ctL_stateOf (l : Launch) (hl0 : l.stackTraces = false) (D : va_G) (cy : Nat → ClassId) (rf : Nat → Nat) (sb ag : Nat) (ad : Nat → Nat → Nat) (σ : zS) (adD : Nat → Nat → Nat) (δ : zS) (ob : Nat) (w0 : Int64) (hob : ¬ zRA ad adD ob ∧ ob ≠ sb) (x : Int32) (hV : zV σ) (hch : k_has σ 506 x = true → narrow .char (.int (zI σ 105 x.toNatClampNeg)) = .int (zI σ 105 x.toNatClampNeg)) : Met l yL_stateOf (zww yL_stateOf cL_stateOf 4 (some .int) [(0, 9, 12, 21)]) (zrx 9 1 6) (va_Pc [.ref sb, .int x, .ref ob] (zBN D cy rf (fun H => zSA D cy sb ag ad σ adD δ H ∧ zT D cy ob w0 H))) (zqM (some (.int (zkc [1] (k_at σ x)))) (fun H => zSA D cy sb ag ad σ adD δ H ∧ zT D cy ob (if k_at σ x = 0 then (zI σ 105 x.toNatClampNeg).toInt64 else w0) H) (zRO ad adD ob)) 1 6 (zRO ad adD ob) := by
  refine zmetW (by decide) rfl (Nat.le_of_ble_eq_true rfl) rfl (fun p e s m below meth c ls X hml hr hlocks hex hv hl => ?_)
  obtain ⟨hK, hE, hN, ⟨hO, hW, hWD⟩, hT⟩ := hv
  obtain ⟨hx, hb, -, -⟩ := id X
  have hl : lv_has ls 4 [(0, .ref sb), (1, .int x), (2, .ref ob)] := hl
  have hS : va_S (zRO ad adD ob) s.heap s.heap [] := va_S.rf
  refine lv_aload_n hx hb dL_stateOf_0 rfl (lv_at hl 2 rfl) ?_
  refine lv_iconst (v := 0) hx hb dL_stateOf_1 (by decide) ?_
  refine lv_aload_n hx hb dL_stateOf_2 rfl (lv_at hl 0 rfl) ?_
  refine lv_iload_n hx hb dL_stateOf_3 rfl (lv_at hl 1 rfl) ?_
  refine zcallCV (As := [.int x]) (rest := [.int 0, .ref ob]) X hml hK hE ⟨hO, hW, hWD⟩ (ctX9_stateOf l hl0 D cy rf sb ag ad σ adD δ x hV hch) zmX9_stateOf (by decide) m_964 (zrecv hK hO rfl) ⟨(Nat.le_of_ble_eq_true rfl), (Nat.le_of_ble_eq_true rfl)⟩ ⟨(Nat.le_of_ble_eq_true rfl), (Nat.le_of_ble_eq_true rfl)⟩ rfl hl.1 rfl (Nat.le_of_ble_eq_true rfl) dL_stateOf_4 hS (fun _ h => h.elim) (fun E ce q9 H locs hr0 hE0 hsz hfr hS hce hcv hcl => ?_) (fun h0 H locs hG9 hsz hfr hS => ?_)
  · replace hO := zO.kept hO (fun hq => hfr _ hq)
    replace hW := zW.kept hW (fun q hq => hfr q (hW.lt hq))
    replace hWD := zW.kept hWD (fun q hq => hfr q (hWD.lt hq))
    replace hT := hT.kept (fun hq => hfr _ hq)
    rcases (zr_at σ x) with h0 | h0
    · exact absurd h0 hr0
    · rw [hE0, h0] at hcl
      refine vx_catch (E := "java/lang/IndexOutOfBoundsException") (name := "java/lang/IndexOutOfBoundsException") X.2.2.1 [] (zte 0 9 12 21) [] (hex.trans rfl) (fun _ h => nomatch h) (by decide) (by decide) (X.2.2.2 _ m_796) (zcastX (X.2.2.2 _ m_16)) hce hcv hcl (?_ : W p l e _ s m _ below meth c _ _ _ _ _ (F0 m 12 ls [.ref q9]))
      refine lv_astore_n (lv' := [(3, .ref q9), (0, .ref sb), (1, .int x), (2, .ref ob)]) hx hb dL_stateOf_12 rfl hl (by decide) rfl (fun ls hl => ?_)
      refine lv_iconst (v := 1) hx hb dL_stateOf_13 (by decide) ?_
      exact zo_i hx hb hr hlocks (by rw [h0]; rfl) ⟨⟨hO, hW, hWD⟩, by rw [if_neg hr0]; exact hT⟩ hS (Nat.le_of_ble_eq_true rfl) (Nat.le_of_ble_eq_true rfl) dL_stateOf_14
  · obtain ⟨hO, hW, hWD⟩ := hG9
    replace hT := hT.kept (fun hq => hfr _ hq (fun z => z))
    refine lv_i2l hx hb dL_stateOf_7 rfl ?_
    refine zoL X hK hT hS (Or.inr rfl) dL_stateOf_8 (fun H locs hT hz9 hfr9 hS => ?_)
    have hO := zO.kept hO (fun _ => hfr9 sb (Ne.symm hob.2))
    have hW := zW.kept hW (fun q hq => hfr9 q (fun z => hob.1 (Or.inl (by rw [← z]; exact hq))))
    have hWD := zW.kept hWD (fun q hq => hfr9 q (fun z => hob.1 (Or.inr (by rw [← z]; exact hq))))
    refine lv_goto (tgt := 15) hx hb dL_stateOf_9 (by decide) ?_
    refine lv_iconst (v := 0) hx hb dL_stateOf_15 (by decide) ?_
    exact zo_i hx hb hr hlocks (by rw [h0]; rfl) ⟨⟨hO, hW, hWD⟩, by rw [if_pos h0]; exact hT⟩ hS (Nat.le_of_ble_eq_true rfl) (Nat.le_of_ble_eq_true rfl) dL_stateOf_16
theorem zmL_isGrounded : zmW yL_isGrounded RL cL_isGrounded 4 (some .int) [(0, 16, 19, 21)] 3 := ⟨m_975, m_0, m_976, rfl, by decide, by decide, by decide +kernel⟩
set_option maxRecDepth 100000 in
set_option maxHeartbeats 4000000 in
theorem ctL_isGrounded (l : Launch) (hl0 : l.stackTraces = false) (D : va_G) (cy : Nat → ClassId) (rf : Nat → Nat) (sb ag : Nat) (ad : Nat → Nat → Nat) (σ : zS) (adD : Nat → Nat → Nat) (δ : zS) (ob : Nat) (w0 : Int64) (hob : ¬ zRA ad adD ob ∧ ob ≠ sb) (x : Int32) (hV : zV σ) : Met l yL_isGrounded (zww yL_isGrounded cL_isGrounded 4 (some .int) [(0, 16, 19, 21)]) (zrx 9 1 6) (va_Pc [.ref sb, .int x, .ref ob] (zBN D cy rf (fun H => zSA D cy sb ag ad σ adD δ H ∧ zT D cy ob w0 H))) (zqM (some (.int (zkc [1] (k_at σ x)))) (fun H => zSA D cy sb ag ad σ adD δ H ∧ zT D cy ob (if k_at σ x = 0 then bL (k_down σ x.toNatClampNeg) else w0) H) (zRO ad adD ob)) 1 6 (zRO ad adD ob) := by
  refine zmetW (by decide) rfl (Nat.le_of_ble_eq_true rfl) rfl (fun p e s m below meth c ls X hml hr hlocks hex hv hl => ?_)
  obtain ⟨hK, hE, hN, ⟨hO, hW, hWD⟩, hT⟩ := hv
  obtain ⟨hx, hb, -, -⟩ := id X
  have hl : lv_has ls 4 [(0, .ref sb), (1, .int x), (2, .ref ob)] := hl
  have hS : va_S (zRO ad adD ob) s.heap s.heap [] := va_S.rf
  refine lv_aload_n hx hb dL_isGrounded_0 rfl (lv_at hl 2 rfl) ?_
  refine lv_iconst (v := 0) hx hb dL_isGrounded_1 (by decide) ?_
  refine lv_aload_n hx hb dL_isGrounded_2 rfl (lv_at hl 0 rfl) ?_
  refine lv_iload_n hx hb dL_isGrounded_3 rfl (lv_at hl 1 rfl) ?_
  refine zcallCV (As := [.int x]) (rest := [.int 0, .ref ob]) X hml hK hE ⟨hO, hW, hWD⟩ (ctX9_isGrounded l hl0 D cy rf sb ag ad σ adD δ x hV) zmX9_isGrounded (by decide) m_977 (zrecv hK hO rfl) ⟨(Nat.le_of_ble_eq_true rfl), (Nat.le_of_ble_eq_true rfl)⟩ ⟨(Nat.le_of_ble_eq_true rfl), (Nat.le_of_ble_eq_true rfl)⟩ rfl hl.1 rfl (Nat.le_of_ble_eq_true rfl) dL_isGrounded_4 hS (fun _ h => h.elim) (fun E ce q9 H locs hr0 hE0 hsz hfr hS hce hcv hcl => ?_) (fun h0 H locs hG9 hsz hfr hS => ?_)
  · replace hO := zO.kept hO (fun hq => hfr _ hq)
    replace hW := zW.kept hW (fun q hq => hfr q (hW.lt hq))
    replace hWD := zW.kept hWD (fun q hq => hfr q (hWD.lt hq))
    replace hT := hT.kept (fun hq => hfr _ hq)
    rcases (zr_at σ x) with h0 | h0
    · exact absurd h0 hr0
    · rw [hE0, h0] at hcl
      refine vx_catch (E := "java/lang/IndexOutOfBoundsException") (name := "java/lang/IndexOutOfBoundsException") X.2.2.1 [] (zte 0 16 19 21) [] (hex.trans rfl) (fun _ h => nomatch h) (by decide) (by decide) (X.2.2.2 _ m_796) (zcastX (X.2.2.2 _ m_16)) hce hcv hcl (?_ : W p l e _ s m _ below meth c _ _ _ _ _ (F0 m 19 ls [.ref q9]))
      refine lv_astore_n (lv' := [(3, .ref q9), (0, .ref sb), (1, .int x), (2, .ref ob)]) hx hb dL_isGrounded_19 rfl hl (by decide) rfl (fun ls hl => ?_)
      refine lv_iconst (v := 1) hx hb dL_isGrounded_20 (by decide) ?_
      exact zo_i hx hb hr hlocks (by rw [h0]; rfl) ⟨⟨hO, hW, hWD⟩, by rw [if_neg hr0]; exact hT⟩ hS (Nat.le_of_ble_eq_true rfl) (Nat.le_of_ble_eq_true rfl) dL_isGrounded_21
  · obtain ⟨hO, hW, hWD⟩ := hG9
    replace hT := hT.kept (fun hq => hfr _ hq (fun z => z))
    refine zb_eq (tgt := 14) hx hb dL_isGrounded_7 (by decide) (fun b1 => ?_) (fun b1 => ?_)
    · refine lv_lconst (v := 0) hx hb dL_isGrounded_14 rfl ?_
      refine zoL X hK hT hS (Or.inr rfl) dL_isGrounded_15 (fun H locs hT hz9 hfr9 hS => ?_)
      have hO := zO.kept hO (fun _ => hfr9 sb (Ne.symm hob.2))
      have hW := zW.kept hW (fun q hq => hfr9 q (fun z => hob.1 (Or.inl (by rw [← z]; exact hq))))
      have hWD := zW.kept hWD (fun q hq => hfr9 q (fun z => hob.1 (Or.inr (by rw [← z]; exact hq))))
      refine lv_goto (tgt := 22) hx hb dL_isGrounded_16 (by decide) ?_
      refine lv_iconst (v := 0) hx hb dL_isGrounded_22 (by decide) ?_
      exact zo_i hx hb hr hlocks (by rw [h0]; rfl) ⟨⟨hO, hW, hWD⟩, by rw [if_pos h0, bL, b1, if_neg (by decide)]; exact hT⟩ hS (Nat.le_of_ble_eq_true rfl) (Nat.le_of_ble_eq_true rfl) dL_isGrounded_23
    · refine lv_lconst (v := 1) hx hb dL_isGrounded_10 rfl ?_
      refine lv_goto (tgt := 15) hx hb dL_isGrounded_11 (by decide) ?_
      refine zoL X hK hT hS (Or.inr rfl) dL_isGrounded_15 (fun H locs hT hz9 hfr9 hS => ?_)
      have hO := zO.kept hO (fun _ => hfr9 sb (Ne.symm hob.2))
      have hW := zW.kept hW (fun q hq => hfr9 q (fun z => hob.1 (Or.inl (by rw [← z]; exact hq))))
      have hWD := zW.kept hWD (fun q hq => hfr9 q (fun z => hob.1 (Or.inr (by rw [← z]; exact hq))))
      refine lv_goto (tgt := 22) hx hb dL_isGrounded_16 (by decide) ?_
      refine lv_iconst (v := 0) hx hb dL_isGrounded_22 (by decide) ?_
      exact zo_i hx hb hr hlocks (by rw [h0]; rfl) ⟨⟨hO, hW, hWD⟩, by rw [if_pos h0, bL, b1, if_pos rfl]; exact hT⟩ hS (Nat.le_of_ble_eq_true rfl) (Nat.le_of_ble_eq_true rfl) dL_isGrounded_23
theorem zmL_isOut : zmW yL_isOut RL cL_isOut 4 (some .int) [(0, 16, 19, 21)] 3 := ⟨m_983, m_0, m_984, rfl, by decide, by decide, by decide +kernel⟩
set_option maxRecDepth 100000 in
set_option maxHeartbeats 4000000 in
theorem ctL_isOut (l : Launch) (hl0 : l.stackTraces = false) (D : va_G) (cy : Nat → ClassId) (rf : Nat → Nat) (sb ag : Nat) (ad : Nat → Nat → Nat) (σ : zS) (adD : Nat → Nat → Nat) (δ : zS) (ob : Nat) (w0 : Int64) (hob : ¬ zRA ad adD ob ∧ ob ≠ sb) (x : Int32) (hV : zV σ) : Met l yL_isOut (zww yL_isOut cL_isOut 4 (some .int) [(0, 16, 19, 21)]) (zrx 9 1 6) (va_Pc [.ref sb, .int x, .ref ob] (zBN D cy rf (fun H => zSA D cy sb ag ad σ adD δ H ∧ zT D cy ob w0 H))) (zqM (some (.int (zkc [1] (k_at σ x)))) (fun H => zSA D cy sb ag ad σ adD δ H ∧ zT D cy ob (if k_at σ x = 0 then bL (k_old σ x.toNatClampNeg) else w0) H) (zRO ad adD ob)) 1 6 (zRO ad adD ob) := by
  refine zmetW (by decide) rfl (Nat.le_of_ble_eq_true rfl) rfl (fun p e s m below meth c ls X hml hr hlocks hex hv hl => ?_)
  obtain ⟨hK, hE, hN, ⟨hO, hW, hWD⟩, hT⟩ := hv
  obtain ⟨hx, hb, -, -⟩ := id X
  have hl : lv_has ls 4 [(0, .ref sb), (1, .int x), (2, .ref ob)] := hl
  have hS : va_S (zRO ad adD ob) s.heap s.heap [] := va_S.rf
  refine lv_aload_n hx hb dL_isOut_0 rfl (lv_at hl 2 rfl) ?_
  refine lv_iconst (v := 0) hx hb dL_isOut_1 (by decide) ?_
  refine lv_aload_n hx hb dL_isOut_2 rfl (lv_at hl 0 rfl) ?_
  refine lv_iload_n hx hb dL_isOut_3 rfl (lv_at hl 1 rfl) ?_
  refine zcallCV (As := [.int x]) (rest := [.int 0, .ref ob]) X hml hK hE ⟨hO, hW, hWD⟩ (ctX9_isOut l hl0 D cy rf sb ag ad σ adD δ x hV) zmX9_isOut (by decide) m_985 (zrecv hK hO rfl) ⟨(Nat.le_of_ble_eq_true rfl), (Nat.le_of_ble_eq_true rfl)⟩ ⟨(Nat.le_of_ble_eq_true rfl), (Nat.le_of_ble_eq_true rfl)⟩ rfl hl.1 rfl (Nat.le_of_ble_eq_true rfl) dL_isOut_4 hS (fun _ h => h.elim) (fun E ce q9 H locs hr0 hE0 hsz hfr hS hce hcv hcl => ?_) (fun h0 H locs hG9 hsz hfr hS => ?_)
  · replace hO := zO.kept hO (fun hq => hfr _ hq)
    replace hW := zW.kept hW (fun q hq => hfr q (hW.lt hq))
    replace hWD := zW.kept hWD (fun q hq => hfr q (hWD.lt hq))
    replace hT := hT.kept (fun hq => hfr _ hq)
    rcases (zr_at σ x) with h0 | h0
    · exact absurd h0 hr0
    · rw [hE0, h0] at hcl
      refine vx_catch (E := "java/lang/IndexOutOfBoundsException") (name := "java/lang/IndexOutOfBoundsException") X.2.2.1 [] (zte 0 16 19 21) [] (hex.trans rfl) (fun _ h => nomatch h) (by decide) (by decide) (X.2.2.2 _ m_796) (zcastX (X.2.2.2 _ m_16)) hce hcv hcl (?_ : W p l e _ s m _ below meth c _ _ _ _ _ (F0 m 19 ls [.ref q9]))
      refine lv_astore_n (lv' := [(3, .ref q9), (0, .ref sb), (1, .int x), (2, .ref ob)]) hx hb dL_isOut_19 rfl hl (by decide) rfl (fun ls hl => ?_)
      refine lv_iconst (v := 1) hx hb dL_isOut_20 (by decide) ?_
      exact zo_i hx hb hr hlocks (by rw [h0]; rfl) ⟨⟨hO, hW, hWD⟩, by rw [if_neg hr0]; exact hT⟩ hS (Nat.le_of_ble_eq_true rfl) (Nat.le_of_ble_eq_true rfl) dL_isOut_21
  · obtain ⟨hO, hW, hWD⟩ := hG9
    replace hT := hT.kept (fun hq => hfr _ hq (fun z => z))
    refine zb_eq (tgt := 14) hx hb dL_isOut_7 (by decide) (fun b1 => ?_) (fun b1 => ?_)
    · refine lv_lconst (v := 0) hx hb dL_isOut_14 rfl ?_
      refine zoL X hK hT hS (Or.inr rfl) dL_isOut_15 (fun H locs hT hz9 hfr9 hS => ?_)
      have hO := zO.kept hO (fun _ => hfr9 sb (Ne.symm hob.2))
      have hW := zW.kept hW (fun q hq => hfr9 q (fun z => hob.1 (Or.inl (by rw [← z]; exact hq))))
      have hWD := zW.kept hWD (fun q hq => hfr9 q (fun z => hob.1 (Or.inr (by rw [← z]; exact hq))))
      refine lv_goto (tgt := 22) hx hb dL_isOut_16 (by decide) ?_
      refine lv_iconst (v := 0) hx hb dL_isOut_22 (by decide) ?_
      exact zo_i hx hb hr hlocks (by rw [h0]; rfl) ⟨⟨hO, hW, hWD⟩, by rw [if_pos h0, bL, b1, if_neg (by decide)]; exact hT⟩ hS (Nat.le_of_ble_eq_true rfl) (Nat.le_of_ble_eq_true rfl) dL_isOut_23
    · refine lv_lconst (v := 1) hx hb dL_isOut_10 rfl ?_
      refine lv_goto (tgt := 15) hx hb dL_isOut_11 (by decide) ?_
      refine zoL X hK hT hS (Or.inr rfl) dL_isOut_15 (fun H locs hT hz9 hfr9 hS => ?_)
      have hO := zO.kept hO (fun _ => hfr9 sb (Ne.symm hob.2))
      have hW := zW.kept hW (fun q hq => hfr9 q (fun z => hob.1 (Or.inl (by rw [← z]; exact hq))))
      have hWD := zW.kept hWD (fun q hq => hfr9 q (fun z => hob.1 (Or.inr (by rw [← z]; exact hq))))
      refine lv_goto (tgt := 22) hx hb dL_isOut_16 (by decide) ?_
      refine lv_iconst (v := 0) hx hb dL_isOut_22 (by decide) ?_
      exact zo_i hx hb hr hlocks (by rw [h0]; rfl) ⟨⟨hO, hW, hWD⟩, by rw [if_pos h0, bL, b1, if_pos rfl]; exact hT⟩ hS (Nat.le_of_ble_eq_true rfl) (Nat.le_of_ble_eq_true rfl) dL_isOut_23
theorem zmL_packings : zmW yL_packings RL cL_packings 4 (some .int) [(0, 9, 12, 21)] 3 := ⟨m_991, m_0, m_992, rfl, by decide, by decide, by decide +kernel⟩
set_option maxRecDepth 100000 in
set_option maxHeartbeats 4000000 in
theorem ctL_packings (l : Launch) (hl0 : l.stackTraces = false) (D : va_G) (cy : Nat → ClassId) (rf : Nat → Nat) (sb ag : Nat) (ad : Nat → Nat → Nat) (σ : zS) (adD : Nat → Nat → Nat) (δ : zS) (ob : Nat) (w0 : Int64) (hob : ¬ zRA ad adD ob ∧ ob ≠ sb) (x : Int32) (hV : zV σ) : Met l yL_packings (zww yL_packings cL_packings 4 (some .int) [(0, 9, 12, 21)]) (zrx 9 1 6) (va_Pc [.ref sb, .int x, .ref ob] (zBN D cy rf (fun H => zSA D cy sb ag ad σ adD δ H ∧ zT D cy ob w0 H))) (zqM (some (.int (zkc [1] (k_at σ x)))) (fun H => zSA D cy sb ag ad σ adD δ H ∧ zT D cy ob (if k_at σ x = 0 then (zI σ 109 x.toNatClampNeg).toInt64 else w0) H) (zRO ad adD ob)) 1 6 (zRO ad adD ob) := by
  refine zmetW (by decide) rfl (Nat.le_of_ble_eq_true rfl) rfl (fun p e s m below meth c ls X hml hr hlocks hex hv hl => ?_)
  obtain ⟨hK, hE, hN, ⟨hO, hW, hWD⟩, hT⟩ := hv
  obtain ⟨hx, hb, -, -⟩ := id X
  have hl : lv_has ls 4 [(0, .ref sb), (1, .int x), (2, .ref ob)] := hl
  have hS : va_S (zRO ad adD ob) s.heap s.heap [] := va_S.rf
  refine lv_aload_n hx hb dL_packings_0 rfl (lv_at hl 2 rfl) ?_
  refine lv_iconst (v := 0) hx hb dL_packings_1 (by decide) ?_
  refine lv_aload_n hx hb dL_packings_2 rfl (lv_at hl 0 rfl) ?_
  refine lv_iload_n hx hb dL_packings_3 rfl (lv_at hl 1 rfl) ?_
  refine zcallCV (As := [.int x]) (rest := [.int 0, .ref ob]) X hml hK hE ⟨hO, hW, hWD⟩ (ctX9_packings l hl0 D cy rf sb ag ad σ adD δ x hV) zmX9_packings (by decide) m_993 (zrecv hK hO rfl) ⟨(Nat.le_of_ble_eq_true rfl), (Nat.le_of_ble_eq_true rfl)⟩ ⟨(Nat.le_of_ble_eq_true rfl), (Nat.le_of_ble_eq_true rfl)⟩ rfl hl.1 rfl (Nat.le_of_ble_eq_true rfl) dL_packings_4 hS (fun _ h => h.elim) (fun E ce q9 H locs hr0 hE0 hsz hfr hS hce hcv hcl => ?_) (fun h0 H locs hG9 hsz hfr hS => ?_)
  · replace hO := zO.kept hO (fun hq => hfr _ hq)
    replace hW := zW.kept hW (fun q hq => hfr q (hW.lt hq))
    replace hWD := zW.kept hWD (fun q hq => hfr q (hWD.lt hq))
    replace hT := hT.kept (fun hq => hfr _ hq)
    rcases (zr_at σ x) with h0 | h0
    · exact absurd h0 hr0
    · rw [hE0, h0] at hcl
      refine vx_catch (E := "java/lang/IndexOutOfBoundsException") (name := "java/lang/IndexOutOfBoundsException") X.2.2.1 [] (zte 0 9 12 21) [] (hex.trans rfl) (fun _ h => nomatch h) (by decide) (by decide) (X.2.2.2 _ m_796) (zcastX (X.2.2.2 _ m_16)) hce hcv hcl (?_ : W p l e _ s m _ below meth c _ _ _ _ _ (F0 m 12 ls [.ref q9]))
      refine lv_astore_n (lv' := [(3, .ref q9), (0, .ref sb), (1, .int x), (2, .ref ob)]) hx hb dL_packings_12 rfl hl (by decide) rfl (fun ls hl => ?_)
      refine lv_iconst (v := 1) hx hb dL_packings_13 (by decide) ?_
      exact zo_i hx hb hr hlocks (by rw [h0]; rfl) ⟨⟨hO, hW, hWD⟩, by rw [if_neg hr0]; exact hT⟩ hS (Nat.le_of_ble_eq_true rfl) (Nat.le_of_ble_eq_true rfl) dL_packings_14
  · obtain ⟨hO, hW, hWD⟩ := hG9
    replace hT := hT.kept (fun hq => hfr _ hq (fun z => z))
    refine lv_i2l hx hb dL_packings_7 rfl ?_
    refine zoL X hK hT hS (Or.inr rfl) dL_packings_8 (fun H locs hT hz9 hfr9 hS => ?_)
    have hO := zO.kept hO (fun _ => hfr9 sb (Ne.symm hob.2))
    have hW := zW.kept hW (fun q hq => hfr9 q (fun z => hob.1 (Or.inl (by rw [← z]; exact hq))))
    have hWD := zW.kept hWD (fun q hq => hfr9 q (fun z => hob.1 (Or.inr (by rw [← z]; exact hq))))
    refine lv_goto (tgt := 15) hx hb dL_packings_9 (by decide) ?_
    refine lv_iconst (v := 0) hx hb dL_packings_15 (by decide) ?_
    exact zo_i hx hb hr hlocks (by rw [h0]; rfl) ⟨⟨hO, hW, hWD⟩, by rw [if_pos h0]; exact hT⟩ hS (Nat.le_of_ble_eq_true rfl) (Nat.le_of_ble_eq_true rfl) dL_packings_16
theorem zmL_packingOf : zmW yL_packingOf RL cL_packingOf 6 (some .int) [(0, 12, 15, 21), (0, 12, 19, 13)] 5 := ⟨m_998, m_0, m_999, rfl, by decide, by decide, by decide +kernel⟩
set_option maxRecDepth 100000 in
set_option maxHeartbeats 4000000 in
theorem ctL_packingOf (l : Launch) (hl0 : l.stackTraces = false) (D : va_G) (cy : Nat → ClassId) (rf : Nat → Nat) (sb ag : Nat) (ad : Nat → Nat → Nat) (σ : zS) (adD : Nat → Nat → Nat) (δ : zS) (ob : Nat) (w0 : Int64) (hob : ¬ zRA ad adD ob ∧ ob ≠ sb) (x : Int32) (j : Int32) (w : Int32) (hV : zV σ) : Met l yL_packingOf (zww yL_packingOf cL_packingOf 6 (some .int) [(0, 12, 15, 21), (0, 12, 19, 13)]) (zrx 9 2 12) (va_Pc [.ref sb, .int x, .int j, .int w, .ref ob] (zBN D cy rf (fun H => zSA D cy sb ag ad σ adD δ H ∧ zT D cy ob w0 H))) (zqM (some (.int (zkc [1, 2] (k_pkr σ x j w)))) (fun H => zSA D cy sb ag ad σ adD δ H ∧ zT D cy ob (if k_pkr σ x j w = 0 then (k_look σ x j w).toInt64 else w0) H) (zRO ad adD ob)) 2 12 (zRO ad adD ob) := by
  refine zmetW (by decide) rfl (Nat.le_of_ble_eq_true rfl) rfl (fun p e s m below meth c ls X hml hr hlocks hex hv hl => ?_)
  obtain ⟨hK, hE, hN, ⟨hO, hW, hWD⟩, hT⟩ := hv
  obtain ⟨hx, hb, -, -⟩ := id X
  have hl : lv_has ls 6 [(0, .ref sb), (1, .int x), (2, .int j), (3, .int w), (4, .ref ob)] := hl
  have hS : va_S (zRO ad adD ob) s.heap s.heap [] := va_S.rf
  refine lv_aload hx hb dL_packingOf_0 (lv_at hl 4 rfl) ?_
  refine lv_iconst (v := 0) hx hb dL_packingOf_2 (by decide) ?_
  refine lv_aload_n hx hb dL_packingOf_3 rfl (lv_at hl 0 rfl) ?_
  refine lv_iload_n hx hb dL_packingOf_4 rfl (lv_at hl 1 rfl) ?_
  refine lv_iload_n hx hb dL_packingOf_5 rfl (lv_at hl 2 rfl) ?_
  refine lv_iload_n hx hb dL_packingOf_6 rfl (lv_at hl 3 rfl) ?_
  refine zcallCV (As := [.int x, .int j, .int w]) (rest := [.int 0, .ref ob]) X hml hK hE ⟨hO, hW, hWD⟩ (ctX9_packingOf l hl0 D cy rf sb ag ad σ adD δ x j w hV) zmX9_packingOf (by decide) m_1000 (zrecv hK hO rfl) ⟨(Nat.le_of_ble_eq_true rfl), (Nat.le_of_ble_eq_true rfl)⟩ ⟨(Nat.le_of_ble_eq_true rfl), (Nat.le_of_ble_eq_true rfl)⟩ rfl hl.1 rfl (Nat.le_of_ble_eq_true rfl) dL_packingOf_7 hS (fun _ h => h.elim) (fun E ce q9 H locs hr0 hE0 hsz hfr hS hce hcv hcl => ?_) (fun h0 H locs hG9 hsz hfr hS => ?_)
  · replace hO := zO.kept hO (fun hq => hfr _ hq)
    replace hW := zW.kept hW (fun q hq => hfr q (hW.lt hq))
    replace hWD := zW.kept hWD (fun q hq => hfr q (hWD.lt hq))
    replace hT := hT.kept (fun hq => hfr _ hq)
    rcases (zr_pkr σ x j w) with h0 | h0 | h0
    · exact absurd h0 hr0
    · rw [hE0, h0] at hcl
      refine vx_catch (E := "java/lang/IndexOutOfBoundsException") (name := "java/lang/IndexOutOfBoundsException") X.2.2.1 [] (zte 0 12 15 21) [zte 0 12 19 13] (hex.trans rfl) (fun _ h => nomatch h) (by decide) (by decide) (X.2.2.2 _ m_796) (zcastX (X.2.2.2 _ m_16)) hce hcv hcl (?_ : W p l e _ s m _ below meth c _ _ _ _ _ (F0 m 15 ls [.ref q9]))
      refine lv_astore (lv' := [(5, .ref q9), (0, .ref sb), (1, .int x), (2, .int j), (3, .int w), (4, .ref ob)]) hx hb dL_packingOf_15 hl (by decide) rfl (fun ls hl => ?_)
      refine lv_iconst (v := 1) hx hb dL_packingOf_17 (by decide) ?_
      exact zo_i hx hb hr hlocks (by rw [h0]; rfl) ⟨⟨hO, hW, hWD⟩, by rw [if_neg hr0]; exact hT⟩ hS (Nat.le_of_ble_eq_true rfl) (Nat.le_of_ble_eq_true rfl) dL_packingOf_18
    · rw [hE0, h0] at hcl
      refine vx_catch (E := "java/lang/IllegalArgumentException") (name := "java/lang/IllegalArgumentException") X.2.2.1 [zte 0 12 15 21] (zte 0 12 19 13) [] (hex.trans rfl) (List.forall_mem_cons.mpr ⟨Or.inr ⟨by decide, "java/lang/IndexOutOfBoundsException", X.2.2.2 _ m_796, hN 2 1 (by decide) (by decide) (by decide) (by decide) (by decide)⟩, (fun _ h => nomatch h)⟩) (by decide) (by decide) (X.2.2.2 _ m_645) (zcastX (X.2.2.2 _ m_17)) hce hcv hcl (?_ : W p l e _ s m _ below meth c _ _ _ _ _ (F0 m 19 ls [.ref q9]))
      refine lv_astore (lv' := [(5, .ref q9), (0, .ref sb), (1, .int x), (2, .int j), (3, .int w), (4, .ref ob)]) hx hb dL_packingOf_19 hl (by decide) rfl (fun ls hl => ?_)
      refine lv_iconst (v := 2) hx hb dL_packingOf_21 (by decide) ?_
      exact zo_i hx hb hr hlocks (by rw [h0]; rfl) ⟨⟨hO, hW, hWD⟩, by rw [if_neg hr0]; exact hT⟩ hS (Nat.le_of_ble_eq_true rfl) (Nat.le_of_ble_eq_true rfl) dL_packingOf_22
  · obtain ⟨hO, hW, hWD⟩ := hG9
    replace hT := hT.kept (fun hq => hfr _ hq (fun z => z))
    refine lv_i2l hx hb dL_packingOf_10 rfl ?_
    refine zoL X hK hT hS (Or.inr rfl) dL_packingOf_11 (fun H locs hT hz9 hfr9 hS => ?_)
    have hO := zO.kept hO (fun _ => hfr9 sb (Ne.symm hob.2))
    have hW := zW.kept hW (fun q hq => hfr9 q (fun z => hob.1 (Or.inl (by rw [← z]; exact hq))))
    have hWD := zW.kept hWD (fun q hq => hfr9 q (fun z => hob.1 (Or.inr (by rw [← z]; exact hq))))
    refine lv_goto (tgt := 23) hx hb dL_packingOf_12 (by decide) ?_
    refine lv_iconst (v := 0) hx hb dL_packingOf_23 (by decide) ?_
    exact zo_i hx hb hr hlocks (by rw [h0]; rfl) ⟨⟨hO, hW, hWD⟩, by rw [if_pos h0]; exact hT⟩ hS (Nat.le_of_ble_eq_true rfl) (Nat.le_of_ble_eq_true rfl) dL_packingOf_24
theorem zmL_jumps : zmW yL_jumps RL cL_jumps 4 (some .int) [(0, 9, 12, 21)] 3 := ⟨m_1016, m_0, m_1017, rfl, by decide, by decide, by decide +kernel⟩
set_option maxRecDepth 100000 in
set_option maxHeartbeats 4000000 in
theorem ctL_jumps (l : Launch) (hl0 : l.stackTraces = false) (D : va_G) (cy : Nat → ClassId) (rf : Nat → Nat) (sb ag : Nat) (ad : Nat → Nat → Nat) (σ : zS) (adD : Nat → Nat → Nat) (δ : zS) (ob : Nat) (w0 : Int64) (hob : ¬ zRA ad adD ob ∧ ob ≠ sb) (x : Int32) (hV : zV σ) : Met l yL_jumps (zww yL_jumps cL_jumps 4 (some .int) [(0, 9, 12, 21)]) (zrx 9 1 6) (va_Pc [.ref sb, .int x, .ref ob] (zBN D cy rf (fun H => zSA D cy sb ag ad σ adD δ H ∧ zT D cy ob w0 H))) (zqM (some (.int (zkc [1] (k_at σ x)))) (fun H => zSA D cy sb ag ad σ adD δ H ∧ zT D cy ob (if k_at σ x = 0 then (zI σ 113 x.toNatClampNeg).toInt64 else w0) H) (zRO ad adD ob)) 1 6 (zRO ad adD ob) := by
  refine zmetW (by decide) rfl (Nat.le_of_ble_eq_true rfl) rfl (fun p e s m below meth c ls X hml hr hlocks hex hv hl => ?_)
  obtain ⟨hK, hE, hN, ⟨hO, hW, hWD⟩, hT⟩ := hv
  obtain ⟨hx, hb, -, -⟩ := id X
  have hl : lv_has ls 4 [(0, .ref sb), (1, .int x), (2, .ref ob)] := hl
  have hS : va_S (zRO ad adD ob) s.heap s.heap [] := va_S.rf
  refine lv_aload_n hx hb dL_jumps_0 rfl (lv_at hl 2 rfl) ?_
  refine lv_iconst (v := 0) hx hb dL_jumps_1 (by decide) ?_
  refine lv_aload_n hx hb dL_jumps_2 rfl (lv_at hl 0 rfl) ?_
  refine lv_iload_n hx hb dL_jumps_3 rfl (lv_at hl 1 rfl) ?_
  refine zcallCV (As := [.int x]) (rest := [.int 0, .ref ob]) X hml hK hE ⟨hO, hW, hWD⟩ (ctX9_jumps l hl0 D cy rf sb ag ad σ adD δ x hV) zmX9_jumps (by decide) m_1018 (zrecv hK hO rfl) ⟨(Nat.le_of_ble_eq_true rfl), (Nat.le_of_ble_eq_true rfl)⟩ ⟨(Nat.le_of_ble_eq_true rfl), (Nat.le_of_ble_eq_true rfl)⟩ rfl hl.1 rfl (Nat.le_of_ble_eq_true rfl) dL_jumps_4 hS (fun _ h => h.elim) (fun E ce q9 H locs hr0 hE0 hsz hfr hS hce hcv hcl => ?_) (fun h0 H locs hG9 hsz hfr hS => ?_)
  · replace hO := zO.kept hO (fun hq => hfr _ hq)
    replace hW := zW.kept hW (fun q hq => hfr q (hW.lt hq))
    replace hWD := zW.kept hWD (fun q hq => hfr q (hWD.lt hq))
    replace hT := hT.kept (fun hq => hfr _ hq)
    rcases (zr_at σ x) with h0 | h0
    · exact absurd h0 hr0
    · rw [hE0, h0] at hcl
      refine vx_catch (E := "java/lang/IndexOutOfBoundsException") (name := "java/lang/IndexOutOfBoundsException") X.2.2.1 [] (zte 0 9 12 21) [] (hex.trans rfl) (fun _ h => nomatch h) (by decide) (by decide) (X.2.2.2 _ m_796) (zcastX (X.2.2.2 _ m_16)) hce hcv hcl (?_ : W p l e _ s m _ below meth c _ _ _ _ _ (F0 m 12 ls [.ref q9]))
      refine lv_astore_n (lv' := [(3, .ref q9), (0, .ref sb), (1, .int x), (2, .ref ob)]) hx hb dL_jumps_12 rfl hl (by decide) rfl (fun ls hl => ?_)
      refine lv_iconst (v := 1) hx hb dL_jumps_13 (by decide) ?_
      exact zo_i hx hb hr hlocks (by rw [h0]; rfl) ⟨⟨hO, hW, hWD⟩, by rw [if_neg hr0]; exact hT⟩ hS (Nat.le_of_ble_eq_true rfl) (Nat.le_of_ble_eq_true rfl) dL_jumps_14
  · obtain ⟨hO, hW, hWD⟩ := hG9
    replace hT := hT.kept (fun hq => hfr _ hq (fun z => z))
    refine lv_i2l hx hb dL_jumps_7 rfl ?_
    refine zoL X hK hT hS (Or.inr rfl) dL_jumps_8 (fun H locs hT hz9 hfr9 hS => ?_)
    have hO := zO.kept hO (fun _ => hfr9 sb (Ne.symm hob.2))
    have hW := zW.kept hW (fun q hq => hfr9 q (fun z => hob.1 (Or.inl (by rw [← z]; exact hq))))
    have hWD := zW.kept hWD (fun q hq => hfr9 q (fun z => hob.1 (Or.inr (by rw [← z]; exact hq))))
    refine lv_goto (tgt := 15) hx hb dL_jumps_9 (by decide) ?_
    refine lv_iconst (v := 0) hx hb dL_jumps_15 (by decide) ?_
    exact zo_i hx hb hr hlocks (by rw [h0]; rfl) ⟨⟨hO, hW, hWD⟩, by rw [if_pos h0]; exact hT⟩ hS (Nat.le_of_ble_eq_true rfl) (Nat.le_of_ble_eq_true rfl) dL_jumps_16
theorem zmL_sharers : zmW yL_sharers RL cL_sharers 4 (some .int) [(0, 9, 12, 21)] 3 := ⟨m_1023, m_0, m_1024, rfl, by decide, by decide, by decide +kernel⟩
set_option maxRecDepth 100000 in
set_option maxHeartbeats 4000000 in
theorem ctL_sharers (l : Launch) (hl0 : l.stackTraces = false) (D : va_G) (cy : Nat → ClassId) (rf : Nat → Nat) (sb ag : Nat) (ad : Nat → Nat → Nat) (σ : zS) (adD : Nat → Nat → Nat) (δ : zS) (ob : Nat) (w0 : Int64) (hob : ¬ zRA ad adD ob ∧ ob ≠ sb) (x : Int32) (hV : zV σ) : Met l yL_sharers (zww yL_sharers cL_sharers 4 (some .int) [(0, 9, 12, 21)]) (zrx 9 1 6) (va_Pc [.ref sb, .int x, .ref ob] (zBN D cy rf (fun H => zSA D cy sb ag ad σ adD δ H ∧ zT D cy ob w0 H))) (zqM (some (.int (zkc [1] (k_at σ x)))) (fun H => zSA D cy sb ag ad σ adD δ H ∧ zT D cy ob (if k_at σ x = 0 then (nI (k_shar σ x.toNatClampNeg)).toInt64 else w0) H) (zRO ad adD ob)) 1 6 (zRO ad adD ob) := by
  refine zmetW (by decide) rfl (Nat.le_of_ble_eq_true rfl) rfl (fun p e s m below meth c ls X hml hr hlocks hex hv hl => ?_)
  obtain ⟨hK, hE, hN, ⟨hO, hW, hWD⟩, hT⟩ := hv
  obtain ⟨hx, hb, -, -⟩ := id X
  have hl : lv_has ls 4 [(0, .ref sb), (1, .int x), (2, .ref ob)] := hl
  have hS : va_S (zRO ad adD ob) s.heap s.heap [] := va_S.rf
  refine lv_aload_n hx hb dL_sharers_0 rfl (lv_at hl 2 rfl) ?_
  refine lv_iconst (v := 0) hx hb dL_sharers_1 (by decide) ?_
  refine lv_aload_n hx hb dL_sharers_2 rfl (lv_at hl 0 rfl) ?_
  refine lv_iload_n hx hb dL_sharers_3 rfl (lv_at hl 1 rfl) ?_
  refine zcallCV (As := [.int x]) (rest := [.int 0, .ref ob]) X hml hK hE ⟨hO, hW, hWD⟩ (ctX9_sharers l hl0 D cy rf sb ag ad σ adD δ x hV) zmX9_sharers (by decide) m_1025 (zrecv hK hO rfl) ⟨(Nat.le_of_ble_eq_true rfl), (Nat.le_of_ble_eq_true rfl)⟩ ⟨(Nat.le_of_ble_eq_true rfl), (Nat.le_of_ble_eq_true rfl)⟩ rfl hl.1 rfl (Nat.le_of_ble_eq_true rfl) dL_sharers_4 hS (fun _ h => h.elim) (fun E ce q9 H locs hr0 hE0 hsz hfr hS hce hcv hcl => ?_) (fun h0 H locs hG9 hsz hfr hS => ?_)
  · replace hO := zO.kept hO (fun hq => hfr _ hq)
    replace hW := zW.kept hW (fun q hq => hfr q (hW.lt hq))
    replace hWD := zW.kept hWD (fun q hq => hfr q (hWD.lt hq))
    replace hT := hT.kept (fun hq => hfr _ hq)
    rcases (zr_at σ x) with h0 | h0
    · exact absurd h0 hr0
    · rw [hE0, h0] at hcl
      refine vx_catch (E := "java/lang/IndexOutOfBoundsException") (name := "java/lang/IndexOutOfBoundsException") X.2.2.1 [] (zte 0 9 12 21) [] (hex.trans rfl) (fun _ h => nomatch h) (by decide) (by decide) (X.2.2.2 _ m_796) (zcastX (X.2.2.2 _ m_16)) hce hcv hcl (?_ : W p l e _ s m _ below meth c _ _ _ _ _ (F0 m 12 ls [.ref q9]))
      refine lv_astore_n (lv' := [(3, .ref q9), (0, .ref sb), (1, .int x), (2, .ref ob)]) hx hb dL_sharers_12 rfl hl (by decide) rfl (fun ls hl => ?_)
      refine lv_iconst (v := 1) hx hb dL_sharers_13 (by decide) ?_
      exact zo_i hx hb hr hlocks (by rw [h0]; rfl) ⟨⟨hO, hW, hWD⟩, by rw [if_neg hr0]; exact hT⟩ hS (Nat.le_of_ble_eq_true rfl) (Nat.le_of_ble_eq_true rfl) dL_sharers_14
  · obtain ⟨hO, hW, hWD⟩ := hG9
    replace hT := hT.kept (fun hq => hfr _ hq (fun z => z))
    refine lv_i2l hx hb dL_sharers_7 rfl ?_
    refine zoL X hK hT hS (Or.inr rfl) dL_sharers_8 (fun H locs hT hz9 hfr9 hS => ?_)
    have hO := zO.kept hO (fun _ => hfr9 sb (Ne.symm hob.2))
    have hW := zW.kept hW (fun q hq => hfr9 q (fun z => hob.1 (Or.inl (by rw [← z]; exact hq))))
    have hWD := zW.kept hWD (fun q hq => hfr9 q (fun z => hob.1 (Or.inr (by rw [← z]; exact hq))))
    refine lv_goto (tgt := 15) hx hb dL_sharers_9 (by decide) ?_
    refine lv_iconst (v := 0) hx hb dL_sharers_15 (by decide) ?_
    exact zo_i hx hb hr hlocks (by rw [h0]; rfl) ⟨⟨hO, hW, hWD⟩, by rw [if_pos h0]; exact hT⟩ hS (Nat.le_of_ble_eq_true rfl) (Nat.le_of_ble_eq_true rfl) dL_sharers_16
theorem zmL_next : zmW yL_next RL cL_next 3 (some .int) [(0, 8, 11, 115)] 2 := ⟨m_1034, m_0, m_1035, rfl, by decide, by decide, by decide +kernel⟩
set_option maxRecDepth 100000 in
set_option maxHeartbeats 4000000 in
theorem ctL_next (l : Launch) (hl0 : l.stackTraces = false) (D : va_G) (cy : Nat → ClassId) (rf : Nat → Nat) (sb ag : Nat) (ad : Nat → Nat → Nat) (σ : zS) (adD : Nat → Nat → Nat) (δ : zS) (ob : Nat) (w0 : Int64) (hob : ¬ zRA ad adD ob ∧ ob ≠ sb) (hV : zV σ) : Met l yL_next (zww yL_next cL_next 3 (some .int) [(0, 8, 11, 115)]) (zrx 9 1 6) (va_Pc [.ref sb, .ref ob] (zBN D cy rf (fun H => zSA D cy sb ag ad σ adD δ H ∧ zT D cy ob w0 H))) (zqM (some (.int (zkc [5] (k_nxr σ)))) (fun H => zSA D cy sb ag ad σ adD δ H ∧ zT D cy ob (if k_nxr σ = 0 then (k_nx σ).toInt64 else w0) H) (zRO ad adD ob)) 1 6 (zRO ad adD ob) := by
  refine zmetW (by decide) rfl (Nat.le_of_ble_eq_true rfl) rfl (fun p e s m below meth c ls X hml hr hlocks hex hv hl => ?_)
  obtain ⟨hK, hE, hN, ⟨hO, hW, hWD⟩, hT⟩ := hv
  obtain ⟨hx, hb, -, -⟩ := id X
  have hl : lv_has ls 3 [(0, .ref sb), (1, .ref ob)] := hl
  have hS : va_S (zRO ad adD ob) s.heap s.heap [] := va_S.rf
  refine lv_aload_n hx hb dL_next_0 rfl (lv_at hl 1 rfl) ?_
  refine lv_iconst (v := 0) hx hb dL_next_1 (by decide) ?_
  refine lv_aload_n hx hb dL_next_2 rfl (lv_at hl 0 rfl) ?_
  refine zcallCV (As := []) (rest := [.int 0, .ref ob]) X hml hK hE ⟨hO, hW, hWD⟩ (ctX9_next l hl0 D cy rf sb ag ad σ adD δ hV) zmX9_next (by decide) m_1037 (zrecv hK hO rfl) ⟨(Nat.le_of_ble_eq_true rfl), (Nat.le_of_ble_eq_true rfl)⟩ ⟨(Nat.le_of_ble_eq_true rfl), (Nat.le_of_ble_eq_true rfl)⟩ rfl hl.1 rfl (Nat.le_of_ble_eq_true rfl) dL_next_3 hS (fun _ h => h.elim) (fun E ce q9 H locs hr0 hE0 hsz hfr hS hce hcv hcl => ?_) (fun h0 H locs hG9 hsz hfr hS => ?_)
  · replace hO := zO.kept hO (fun hq => hfr _ hq)
    replace hW := zW.kept hW (fun q hq => hfr q (hW.lt hq))
    replace hWD := zW.kept hWD (fun q hq => hfr q (hWD.lt hq))
    replace hT := hT.kept (fun hq => hfr _ hq)
    rcases (zr_nx σ) with h0 | h0
    · exact absurd h0 hr0
    · rw [hE0, h0] at hcl
      refine vx_catch (E := "java/util/NoSuchElementException") (name := "java/util/NoSuchElementException") X.2.2.1 [] (zte 0 8 11 115) [] (hex.trans rfl) (fun _ h => nomatch h) (by decide) (by decide) (X.2.2.2 _ m_1036) (zcastX (X.2.2.2 _ m_23)) hce hcv hcl (?_ : W p l e _ s m _ below meth c _ _ _ _ _ (F0 m 11 ls [.ref q9]))
      refine lv_astore_n (lv' := [(2, .ref q9), (0, .ref sb), (1, .ref ob)]) hx hb dL_next_11 rfl hl (by decide) rfl (fun ls hl => ?_)
      refine lv_iconst (v := 1) hx hb dL_next_12 (by decide) ?_
      exact zo_i hx hb hr hlocks (by rw [h0]; rfl) ⟨⟨hO, hW, hWD⟩, by rw [if_neg hr0]; exact hT⟩ hS (Nat.le_of_ble_eq_true rfl) (Nat.le_of_ble_eq_true rfl) dL_next_13
  · obtain ⟨hO, hW, hWD⟩ := hG9
    replace hT := hT.kept (fun hq => hfr _ hq (fun z => z))
    refine lv_i2l hx hb dL_next_6 rfl ?_
    refine zoL X hK hT hS (Or.inr rfl) dL_next_7 (fun H locs hT hz9 hfr9 hS => ?_)
    have hO := zO.kept hO (fun _ => hfr9 sb (Ne.symm hob.2))
    have hW := zW.kept hW (fun q hq => hfr9 q (fun z => hob.1 (Or.inl (by rw [← z]; exact hq))))
    have hWD := zW.kept hWD (fun q hq => hfr9 q (fun z => hob.1 (Or.inr (by rw [← z]; exact hq))))
    refine lv_goto (tgt := 14) hx hb dL_next_8 (by decide) ?_
    refine lv_iconst (v := 0) hx hb dL_next_14 (by decide) ?_
    exact zo_i hx hb hr hlocks (by rw [h0]; rfl) ⟨⟨hO, hW, hWD⟩, by rw [if_pos h0]; exact hT⟩ hS (Nat.le_of_ble_eq_true rfl) (Nat.le_of_ble_eq_true rfl) dL_next_15
