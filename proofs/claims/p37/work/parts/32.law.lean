/-! THE LAW'S HELPERS: an answer into a row of one cell, or the number of the exception -/
/-- the number of a refusal by the order in which a helper catches -/
def zkc (L : List Nat) (r : Nat) : Int32 := if r = 0 then 0 else nI (L.idxOf r + 1)
def bL (b : Bool) : Int64 := if b = true then 1 else 0
/-- of the four exceptions none is another -/
def zNc (U : State) : Prop := ∀ i j : Nat, 1 ≤ i → i ≤ 4 → 1 ≤ j → j ≤ 4 → i ≠ j → va_Nc (zxc i) (zxc j) U
theorem zNc.moved {u U : State} (hvm : u.vm.Alike U.vm) (h : zNc u) : zNc U := fun i j a1 a2 a3 a4 a5 => va_Nc.moved hvm (h i j a1 a2 a3 a4 a5)
def zBN (D : va_G) (cy : Nat → ClassId) (rf : Nat → Nat) (G : Heap → Prop) : State → Prop := fun U => zK D cy U ∧ zE rf (fun _ => False) U U.heap ∧ zNc U ∧ G U.heap
theorem zblindN {D : va_G} {cy : Nat → ClassId} {rf : Nat → Nat} {G : Heap → Prop} (U : State) (g : JFrame) (mk : MethodId) (a : Array Value) (q : zBN D cy rf G U) : zBN D cy rf G (U.calling g mk a) := ⟨zK.moved (u := U) (U := U.calling g mk a) (Vm.Alike.refl U.vm) q.1, zE.same (u := U) (U := U.calling g mk a) rfl q.2.1, zNc.moved (u := U) (U := U.calling g mk a) (Vm.Alike.refl U.vm) q.2.2.1, q.2.2.2⟩
/-- a helper's words -/
def zww (y : MethodName) (code : ByteArray) (n : Nat) (ret : Option FieldType) (hh : List (Nat × Nat × Nat × Nat)) : List Cond := Cond.codeWith y code n ret hh :: lw_all
def zmW (y : MethodName) (C : String) (code : ByteArray) (n : Nat) (ret : Option FieldType) (hh : List (Nat × Nat × Nat × Nat)) (na : Nat) : Prop := Cond.static y ∈ lw_all ∧ Cond.initialized C ∈ lw_all ∧ Cond.codeWith y code n ret hh ∈ lw_all ∧ y.cls = C ∧ C ≠ "java/lang/invoke/MethodHandle" ∧ C ≠ "java/lang/invoke/VarHandle" ∧ (parseMethodDescriptor y.desc).map (fun d => d.parameters.length) = some na
/-- what a helper answers: r is the refusal, v the class's own answer -/
def zans (r : Nat) (v : Int32) : Int32 := match r with | 0 => v | 1 => -77 | 2 => -78 | 3 => -76 | 4 => -79 | _ => -75
theorem zans_0 {r : Nat} {v : Int32} (h : r = 0) : zans r v = v := by rw [h]; rfl
theorem zans_1 {r : Nat} {v : Int32} (h : r = 1) : zans r v = -77 := by rw [h]; rfl
theorem zans_2 {r : Nat} {v : Int32} (h : r = 2) : zans r v = -78 := by rw [h]; rfl
theorem zans_3 {r : Nat} {v : Int32} (h : r = 3) : zans r v = -76 := by rw [h]; rfl
theorem zans_4 {r : Nat} {v : Int32} (h : r = 4) : zans r v = -79 := by rw [h]; rfl
theorem zans_5 {r : Nat} {v : Int32} (h : r = 5) : zans r v = -75 := by rw [h]; rfl
theorem zans_b1 {r : Nat} {b : Bool} (h : r = 0) (hb : b = true) : zans r (bI b) = 1 := by rw [h, hb]; rfl
theorem zans_b0 {r : Nat} {b : Bool} (h : r = 0) (hb : b = false) : zans r (bI b) = 0 := by rw [h, hb]; rfl
section ZLW
variable {p : Program} {l : Launch} {e : Env} {R : Room} {s : State} {m : MethodId} {args : Array Value} {below : List Frame} {meth : Method} {c : Code} {H : Heap} {locs : List Loc} {cells slots : Nat} {Q : State → Prop} {cc : ByteArray} {pc : Nat} {ls : Array Slot} {rest : List Value} {D : va_G} {cy : Nat → ClassId} {rf : Nat → Nat} {own C : String} {idx d n na nL b r mc ms mc' ms' : Nat} {A A1 A2 : Nat → Prop} {H0 : Heap} {y : MethodName} {code : ByteArray} {ret : Option FieldType} {G G' : Heap → Prop} {As st0 : List Value} {hh : List (Nat × Nat × Nat × Nat)}
theorem zmetW {av : List Value} {B : State → Prop} {Qc : Array Value → State → Outcome → State → Prop} {free : Addr → Prop} {lv : List (Nat × Value)} (hy : plainName y.cls = true) (hC : y.cls = C) (hn : (lg_sl av).length ≤ n) (hlv : lv_args 0 av = lv)
    (body : ∀ (p : Program) (e : Env) (s : State) (m : MethodId) (below : List Frame) (meth : Method) (c : Code) (ls : Array Slot), zX p m c s av.toArray C code → c.maxLocals = n → meth.sig.returnType = ret → meth.locks = false → c.exceptionTable.toList = tableOf hh → B s → lv_has ls n lv → W p l e (zrx d mc ms) s m av.toArray below meth c s.heap [] 0 0 (MQ below Qc av.toArray s mc ms free) (F0 m 0 ls [])) : Met l y (zww y code n ret hh) (zrx d mc ms) (va_Pc av B) Qc mc ms free := by
  subst hC
  refine va_MetW (cc := code) (maxL := n) (ret := ret) (hh := hh) hy rfl ?_
  intro p e s m args below meth c s₁ Bd hml hv
  obtain ⟨rfl, hB⟩ := hv
  have hts := atoms_spec (ws := zww y code n ret hh) Bd.pre
  have hex := vx_table (x := y) Bd (hts _ List.mem_cons_self)
  have hl := lv_entry av (n := n) hn
  rw [hlv] at hl
  rw [lg_entry_eq]
  exact body p e s m below meth c _ ⟨Bd.exec, Bd.bytes, findClass_of_methodNamed Bd.named, fun w h => hts w (List.mem_cons_of_mem _ h)⟩ hml Bd.returns Bd.notSynchronized hex hB hl
theorem zcwW (ht : ∀ w ∈ lw_all, w.before args s = true) (hm : zmW y C code n ret hh na) (hl : Cond.methodLink own idx y ∈ lw_all) (hR : d + 1 ≤ R.frames ∧ 40 * (d + 1) ≤ R.locals) (hn : n ≤ 21) : vx_CSW R s args own idx y code n ret hh (zww y code n ret hh) (zrx d mc ms) mc ms na := by
  obtain ⟨h1, h3, h4, rfl, h6, h7, h8⟩ := hm
  refine ⟨⟨rfl, rfl, hR.1, ?_, pay_in ht (fun w hw => ?_), List.mem_cons_self⟩, ht _ h4, ht _ h3, ⟨h6, h7⟩, fun sig h => ?_, ht _ hl, ht _ h1⟩
  · show 8 + (n + 11) + 40 * d ≤ R.locals
    omega
  · rcases List.mem_cons.mp hw with rfl | hw
    · exact ⟨h4, lw_good h4⟩
    · exact ⟨hw, lw_good hw⟩
  · rw [h] at h8
    exact (Option.some.inj h8).symm
theorem zpreSn (hK : zK D cy s) (hE : zE rf A s H) (hN : zNc s) (hG : G H) : PreS s H (va_Pc As (zBN D cy rf G)) As := ⟨fun a U g mk q => ⟨q.1, zblindN U g mk a q.2⟩, fun U hU hW => ⟨rfl, zK.moved hW.alike hK, by rw [hU]; exact zE.warm hW (zE.narrow hE (fun _ h => h.elim)), zNc.moved hW.alike hN, by rw [hU]; exact hG⟩⟩
/-- a call that makes cells -/
theorem zcMx {v : Option Value} {a : Array Value} {g : JFrame} (hr : va_Run p l e R s m args below meth c H locs cells slots mc ms g rest (zqM v G' A1 a) A1) (hS : va_S A H0 H locs) (hA : ∀ q, A1 q → A q)
    (kk : ∀ (H1 : Heap) (locs1 : List Loc), G' H1 → H.size ≤ H1.size → (∀ q, q < H.size → ¬ A1 q → H1[q]? = H[q]?) → va_S A H0 H1 locs1 → W p l e R s m args below meth c H1 locs1 (cells + mc) (slots + ms) Q { g with pc := g.pc + 3, stack := v.toList ++ rest }) : W p l e R s m args below meth c H locs cells slots Q g := by
  intro T hT X
  obtain ⟨v', st₀, t, T', L, h0, X', hL, e1, -, ⟨hv, hG, hz, hk⟩, st⟩ := hr T hT X
  cases hv
  rw [h0] at hz hk
  have hz' : H.size ≤ T'.heap.size := by rw [e1]; exact hz
  have hk' : ∀ q, q < H.size → ¬ A1 q → T'.heap[q]? = H[q]? := fun q h1 h2 => by rw [e1]; exact hk q h1 h2
  obtain ⟨t2, a1, b1⟩ := kk T'.heap (locs ++ L) (by rw [e1]; exact hG) hz' hk'
    ⟨Nat.le_trans hS.1 hz', fun q h1 h2 => (hk' q (Nat.lt_of_lt_of_le h1 hS.1) (fun z => h2 (hA q z))).trans (hS.2.1 q h1 h2), fun q hq => by
      rcases List.mem_append.mp hq with h | h
      · exact hS.2.2 q h
      · exact hA _ (hL q h)⟩ T' rfl X'
  exact ⟨t2, st t2 a1, b1⟩
/-- the law calls a helper -/
theorem zcallW {v : Option Value} {rest : List Value} (X : zX p m c s args own cc) (hml : c.maxLocals = nL) (hK : zK D cy s) (hE : zE rf A2 s H) (hN : zNc s) (hG : G H) (hM : Met l y (zww y code n ret hh) (zrx d mc ms) (va_Pc As (zBN D cy rf G)) (zqM v G' A1) mc ms A1) (hm : zmW y C code n ret hh na) (hn : n ≤ 21) (hl : Cond.methodLink own idx y ∈ lw_all) (hR : d + 1 ≤ R.frames ∧ 40 * (d + 1) ≤ R.locals) (hcs : cells + mc ≤ R.cells ∧ slots + ms ≤ R.slots) (hna : As.length = na) (hls : ls.size = nL) (hst : st0 = As.reverse ++ rest) (hrm : (rest.map fun v => v.category).sum ≤ 8) (hd : decode cc pc = .ok (.invokestatic idx, 3)) (hS : va_S A H0 H locs) (hA : ∀ q, A1 q → A q)
    (kk : ∀ (H1 : Heap) (locs1 : List Loc), G' H1 → H.size ≤ H1.size → (∀ q, q < H.size → ¬ A1 q → H1[q]? = H[q]?) → va_S A H0 H1 locs1 → W p l e R s m args below meth c H1 locs1 (cells + mc) (slots + ms) Q (F0 m (pc + 3) ls (v.toList ++ rest))) : W p l e R s m args below meth c H locs cells slots Q (F0 m pc ls st0) :=
  zcMx (vx_runSW ⟨X.1, X.2.1, hml, X.2.2.1, X.2.2.2⟩ hM (zcwW X.2.2.2 hm hl hR hn) (zpreSn hK hE hN hG) rfl hna hls hst (lv_room hrm) hd hcs) hS hA kk
/-- a helper's call of the class, what is thrown left to its handlers -/
theorem zcallCV {v : Option Value} {rest : List Value} (X : zX p m c s args own cc) (hml : c.maxLocals = nL) (hK : zK D cy s) (hE : zE rf A2 s H) (hG : G H) (hM : vx_Met l y (zw y code n ret) (zrx d mc ms) (va_Pc (.ref b :: As) (zBE D cy rf G)) (zxQ r v G' A1) (zxC r) mc ms A1) (hm : zmV y C code n ret na) (hn : n ≤ 21) (hl : Cond.methodLink own idx y ∈ lw_all) (hr : ∃ cell : Cell, H[b]? = some cell ∧ cell.vm.isStatics = false ∧ s.vm.findClass C = some cell.cls) (hR : d + 1 ≤ R.frames ∧ 40 * (d + 1) ≤ R.locals) (hcs : cells + mc ≤ R.cells ∧ slots + ms ≤ R.slots) (hna : As.length = na) (hls : ls.size = nL) (hst : st0 = As.reverse ++ .ref b :: rest) (hrm : (rest.map fun v => v.category).sum ≤ 8) (hd : decode cc pc = .ok (.invokevirtual idx, 3)) (hS : va_S A H0 H locs) (hA : ∀ q, A1 q → A q)
    (kx : ∀ (E : String) (ce : Cell) (q9 : Addr) (H1 : Heap) (locs1 : List Loc), r ≠ 0 → E = zxc r → H.size ≤ H1.size → (∀ q, q < H.size → H1[q]? = H[q]?) → va_S A H0 H1 locs1 → H1[q9]? = some ce → ce.vm = .none → s.vm.findClass E = some ce.cls → vx_W p l e R s m args below meth c H1 locs1 (cells + mc) (slots + ms) Q (F0 m pc ls rest) q9)
    (kk : r = 0 → ∀ (H1 : Heap) (locs1 : List Loc), G' H1 → H.size ≤ H1.size → (∀ q, q < H.size → ¬ A1 q → H1[q]? = H[q]?) → va_S A H0 H1 locs1 → W p l e R s m args below meth c H1 locs1 (cells + mc) (slots + ms) Q (F0 m (pc + 3) ls (v.toList ++ rest))) : W p l e R s m args below meth c H locs cells slots Q (F0 m pc ls st0) :=
  zcX (vx_runV ⟨X.1, X.2.1, hml, X.2.2.1, X.2.2.2⟩ hM (zcwVx X.2.2.2 hm hl hR hn) (zpreVe hK hE hG hr) rfl hna hls hst (lv_room hrm) hd hcs) hS hA kx kk
theorem zo_i {v w : Int32} (hx : p.tables.exec = Jvm.exec) (hb : c.code = cc) (hr : meth.sig.returnType = some .int) (hlocks : meth.locks = false) (h : w = v) (hG : G' H) (hS : va_S A s.heap H locs) (h1 : cells ≤ mc) (h2 : slots ≤ ms) (hd : decode cc pc = .ok (.ireturn, 1)) : W p l e R s m args below meth c H locs cells slots (MQ below (zqM (some (.int v)) G' A) args s mc ms A) (F0 m pc ls [.int w]) := by
  subst h
  exact zwid h1 h2 (W.iret (cc := cc) hx hb hr (fun t ht hW => ⟨rfl, by rw [ht]; exact hG, hS.F ht⟩) hS.2.2 hd hlocks)
theorem zo_f {v w : UInt32} (hx : p.tables.exec = Jvm.exec) (hb : c.code = cc) (hr : meth.sig.returnType = some .float) (hlocks : meth.locks = false) (h : w = v) (hG : G' H) (hS : va_S A s.heap H locs) (h1 : cells ≤ mc) (h2 : slots ≤ ms) (hd : decode cc pc = .ok (.freturn, 1)) : W p l e R s m args below meth c H locs cells slots (MQ below (zqM (some (.float v)) G' A) args s mc ms A) (F0 m pc ls [.float w]) := by
  subst h
  exact zwid h1 h2 (W.fret (cc := cc) hx hb hr (fun t ht hW => ⟨rfl, by rw [ht]; exact hG, hS.F ht⟩) hS.2.2 hd hlocks)
theorem zo_d {v w : UInt64} (hx : p.tables.exec = Jvm.exec) (hb : c.code = cc) (hr : meth.sig.returnType = some .double) (hlocks : meth.locks = false) (h : w = v) (hG : G' H) (hS : va_S A s.heap H locs) (h1 : cells ≤ mc) (h2 : slots ≤ ms) (hd : decode cc pc = .ok (.dreturn, 1)) : W p l e R s m args below meth c H locs cells slots (MQ below (zqM (some (.double v)) G' A) args s mc ms A) (F0 m pc ls [.double w]) := by
  subst h
  exact zwid h1 h2 (W.dret (cc := cc) hx hb hr (fun t ht hW => ⟨rfl, by rw [ht]; exact hG, hS.F ht⟩) hS.2.2 hd hlocks)
end ZLW
def k_nS (σ : zS) (n : Nat) (w1 w2 w3 w4 : Int32) : zS := if k_ref σ (nI n) w1 w2 w3 w4 = 0 then k_pf σ (nI n) w1 w2 w3 w4 else σ
def k_nD (σ δ : zS) (n : Nat) (w1 w2 w3 w4 : Int32) : zS := if k_ref σ (nI n) w1 w2 w3 w4 = 0 then f_X2_write δ (nI n) w1 w2 w3 w4 else δ
theorem k_nS_0 {σ : zS} {n : Nat} {w1 w2 w3 w4 : Int32} (h : k_ref σ (nI n) w1 w2 w3 w4 = 0) : k_nS σ n w1 w2 w3 w4 = k_pf σ (nI n) w1 w2 w3 w4 := if_pos h
theorem k_nS_1 {σ : zS} {n : Nat} {w1 w2 w3 w4 : Int32} (h : k_ref σ (nI n) w1 w2 w3 w4 ≠ 0) : k_nS σ n w1 w2 w3 w4 = σ := if_neg h
theorem k_nD_0 {σ δ : zS} {n : Nat} {w1 w2 w3 w4 : Int32} (h : k_ref σ (nI n) w1 w2 w3 w4 = 0) : k_nD σ δ n w1 w2 w3 w4 = f_X2_write δ (nI n) w1 w2 w3 w4 := if_pos h
theorem k_nD_1 {σ δ : zS} {n : Nat} {w1 w2 w3 w4 : Int32} (h : k_ref σ (nI n) w1 w2 w3 w4 ≠ 0) : k_nD σ δ n w1 w2 w3 w4 = δ := if_neg h
theorem zite {c : Prop} [Decidable c] {P : Nat → Prop} {a b : Nat} (h1 : P a) (h2 : P b) : P (if c then a else b) := by
  by_cases h : c
  · rw [if_pos h]; exact h1
  · rw [if_neg h]; exact h2
def zte (a b h k : Nat) : ExceptionTableEntry := ⟨a, b, h, k⟩
theorem zr_0 (σ : zS) (w1 w2 w3 w4 : Int32) : k_ref σ (nI 0) w1 w2 w3 w4 = 0 ∨ k_ref σ (nI 0) w1 w2 w3 w4 = 2 ∨ k_ref σ (nI 0) w1 w2 w3 w4 = 4 := by
  rw [show nI 0 = 0 from rfl, k_ref_0]
  suffices h : (fun r : Nat => r = 0 ∨ r = 2 ∨ r = 4) (r_X8_refusalOf_0 σ w1 w2 w3 w4) from h
  unfold r_X8_refusalOf_0 r_X8_ofAddRigger
  repeat' (first | refine zite (P := fun r : Nat => r = 0 ∨ r = 2 ∨ r = 4) ?_ ?_ | exact (by decide))
theorem zmL_addRigger : zmW yL_addRigger RL cL_addRigger 4 (some .int) [(0, 6, 7, 20), (0, 6, 11, 22)] 3 := ⟨m_645, m_0, m_646, rfl, by decide, by decide, by decide +kernel⟩
set_option maxRecDepth 100000 in
set_option maxHeartbeats 4000000 in
theorem ctL_addRigger (l : Launch) (hl0 : l.stackTraces = false) (D : va_G) (cy : Nat → ClassId) (rf : Nat → Nat) (sb ag : Nat) (ad : Nat → Nat → Nat) (σ : zS) (adD : Nat → Nat → Nat) (δ : zS) (hJ : zJ sb ad adD) (w1 : Int32) (w2 : Int32) (hV : zV σ) (hc : zbd δ 200 512) (hfull : k_full δ = false) : Met l yL_addRigger (zww yL_addRigger cL_addRigger 4 (some .int) [(0, 6, 7, 20), (0, 6, 11, 22)]) (zrx 9 1 6) (va_Pc [.ref sb, .int w1, .int w2] (zBN D cy rf (zSA D cy sb ag ad σ adD δ))) (zqM (some (.int (zans (k_ref σ (nI 0) w1 w2 0 0) (k_pr σ (nI 0) w1 w2 0 0)))) (zSA D cy sb ag ad (k_nS σ 0 w1 w2 0 0) adD (k_nD σ δ 0 w1 w2 0 0)) (zRA ad adD)) 1 6 (zRA ad adD) := by
  refine zmetW (by decide) rfl (Nat.le_of_ble_eq_true rfl) rfl (fun p e s m below meth c ls X hml hr hlocks hex hv hl => ?_)
  obtain ⟨hK, hE, hN, hO, hW, hWD⟩ := hv
  obtain ⟨hx, hb, -, -⟩ := id X
  have hl : lv_has ls 4 [(0, .ref sb), (1, .int w1), (2, .int w2)] := hl
  have hS : va_S (zRA ad adD) s.heap s.heap [] := va_S.rf
  refine lv_aload_n hx hb dL_addRigger_0 rfl (lv_at hl 0 rfl) ?_
  refine lv_iload_n hx hb dL_addRigger_1 rfl (lv_at hl 1 rfl) ?_
  refine lv_iload_n hx hb dL_addRigger_2 rfl (lv_at hl 2 rfl) ?_
  refine zcallCV (As := [.int w1, .int w2]) (rest := []) X hml hK hE ⟨hO, hW, hWD⟩ (ctX9_addRigger l hl0 D cy rf sb ag ad σ adD δ hJ w1 w2 hV hc hfull) zmX9_addRigger (by decide) m_649 (zrecv hK hO rfl) ⟨(Nat.le_of_ble_eq_true rfl), (Nat.le_of_ble_eq_true rfl)⟩ ⟨(Nat.le_of_ble_eq_true rfl), (Nat.le_of_ble_eq_true rfl)⟩ rfl hl.1 rfl (Nat.le_of_ble_eq_true rfl) dL_addRigger_3 hS (fun _ h => h) (fun E ce q9 H locs hr0 hE0 hsz hfr hS hce hcv hcl => ?_) (fun h0 H locs hG9 hsz hfr hS => ?_)
  · replace hO := zO.kept hO (fun hq => hfr _ hq)
    replace hW := zW.kept hW (fun q hq => hfr q (hW.lt hq))
    replace hWD := zW.kept hWD (fun q hq => hfr q (hWD.lt hq))
    rcases (zr_0 σ w1 w2 0 0) with h0 | h0 | h0
    · exact absurd h0 hr0
    · rw [hE0, h0] at hcl
      refine vx_catch (E := "java/lang/IllegalArgumentException") (name := "java/lang/IllegalArgumentException") X.2.2.1 [] (zte 0 6 7 20) [zte 0 6 11 22] (hex.trans rfl) (fun _ h => nomatch h) (by decide) (by decide) (X.2.2.2 _ m_647) (zcastX (X.2.2.2 _ m_16)) hce hcv hcl (?_ : W p l e _ s m _ below meth c _ _ _ _ _ (F0 m 7 ls [.ref q9]))
      refine lv_astore_n (lv' := [(3, .ref q9), (0, .ref sb), (1, .int w1), (2, .int w2)]) hx hb dL_addRigger_7 rfl hl (by decide) rfl (fun ls hl => ?_)
      refine lv_bipush (v := (-78)) hx hb dL_addRigger_8 (by decide) ?_
      exact zo_i hx hb hr hlocks (zans_2 h0).symm (by rw [k_nS_1 hr0, k_nD_1 hr0]; exact ⟨hO, hW, hWD⟩) hS (Nat.le_of_ble_eq_true rfl) (Nat.le_of_ble_eq_true rfl) dL_addRigger_10
    · rw [hE0, h0] at hcl
      refine vx_catch (E := "java/lang/IllegalStateException") (name := "java/lang/IllegalStateException") X.2.2.1 [zte 0 6 7 20] (zte 0 6 11 22) [] (hex.trans rfl) (List.forall_mem_cons.mpr ⟨Or.inr ⟨by decide, "java/lang/IllegalArgumentException", X.2.2.2 _ m_647, hN 4 2 (by decide) (by decide) (by decide) (by decide) (by decide)⟩, (fun _ h => nomatch h)⟩) (by decide) (by decide) (X.2.2.2 _ m_648) (zcastX (X.2.2.2 _ m_18)) hce hcv hcl (?_ : W p l e _ s m _ below meth c _ _ _ _ _ (F0 m 11 ls [.ref q9]))
      refine lv_astore_n (lv' := [(3, .ref q9), (0, .ref sb), (1, .int w1), (2, .int w2)]) hx hb dL_addRigger_11 rfl hl (by decide) rfl (fun ls hl => ?_)
      refine lv_bipush (v := (-79)) hx hb dL_addRigger_12 (by decide) ?_
      exact zo_i hx hb hr hlocks (zans_4 h0).symm (by rw [k_nS_1 hr0, k_nD_1 hr0]; exact ⟨hO, hW, hWD⟩) hS (Nat.le_of_ble_eq_true rfl) (Nat.le_of_ble_eq_true rfl) dL_addRigger_14
  · obtain ⟨hO, hW, hWD⟩ := hG9
    exact zo_i hx hb hr hlocks (zans_0 h0).symm (by rw [k_nS_0 h0, k_nD_0 h0]; exact ⟨hO, hW, hWD⟩) hS (Nat.le_of_ble_eq_true rfl) (Nat.le_of_ble_eq_true rfl) dL_addRigger_6
theorem zr_1 (σ : zS) (w1 w2 w3 w4 : Int32) : k_ref σ (nI 1) w1 w2 w3 w4 = 0 ∨ k_ref σ (nI 1) w1 w2 w3 w4 = 1 ∨ k_ref σ (nI 1) w1 w2 w3 w4 = 2 := by
  rw [show nI 1 = 1 from rfl, k_ref_1]
  suffices h : (fun r : Nat => r = 0 ∨ r = 1 ∨ r = 2) (r_X8_refusalOf_1 σ w1 w2 w3 w4) from h
  unfold r_X8_refusalOf_1 r_X8_ofSetLicences
  repeat' (first | refine zite (P := fun r : Nat => r = 0 ∨ r = 1 ∨ r = 2) ?_ ?_ | exact (by decide))
theorem zr_2 (σ : zS) (w1 w2 w3 w4 : Int32) : k_ref σ (nI 2) w1 w2 w3 w4 = 0 ∨ k_ref σ (nI 2) w1 w2 w3 w4 = 2 ∨ k_ref σ (nI 2) w1 w2 w3 w4 = 4 := by
  rw [show nI 2 = 2 from rfl, k_ref_2]
  suffices h : (fun r : Nat => r = 0 ∨ r = 2 ∨ r = 4) (r_X8_refusalOf_2 σ w1 w2 w3 w4) from h
  unfold r_X8_refusalOf_2 r_X8_ofAddCanopy
  repeat' (first | refine zite (P := fun r : Nat => r = 0 ∨ r = 2 ∨ r = 4) ?_ ?_ | exact (by decide))
theorem zmL_addCanopy : zmW yL_addCanopy RL cL_addCanopy 6 (some .int) [(0, 9, 10, 20), (0, 9, 15, 22)] 5 := ⟨m_796, m_0, m_797, rfl, by decide, by decide, by decide +kernel⟩
set_option maxRecDepth 100000 in
set_option maxHeartbeats 4000000 in
theorem ctL_addCanopy (l : Launch) (hl0 : l.stackTraces = false) (D : va_G) (cy : Nat → ClassId) (rf : Nat → Nat) (sb ag : Nat) (ad : Nat → Nat → Nat) (σ : zS) (adD : Nat → Nat → Nat) (δ : zS) (hJ : zJ sb ad adD) (w1 : Int32) (w2 : Int32) (w3 : Int32) (w4 : Int32) (hV : zV σ) (hc : zbd δ 200 512) (hfull : k_full δ = false) : Met l yL_addCanopy (zww yL_addCanopy cL_addCanopy 6 (some .int) [(0, 9, 10, 20), (0, 9, 15, 22)]) (zrx 9 1 6) (va_Pc [.ref sb, .int w1, .int w2, .int w3, .int w4] (zBN D cy rf (zSA D cy sb ag ad σ adD δ))) (zqM (some (.int (zans (k_ref σ (nI 2) w1 w2 w3 w4) (k_pr σ (nI 2) w1 w2 w3 w4)))) (zSA D cy sb ag ad (k_nS σ 2 w1 w2 w3 w4) adD (k_nD σ δ 2 w1 w2 w3 w4)) (zRA ad adD)) 1 6 (zRA ad adD) := by
  refine zmetW (by decide) rfl (Nat.le_of_ble_eq_true rfl) rfl (fun p e s m below meth c ls X hml hr hlocks hex hv hl => ?_)
  obtain ⟨hK, hE, hN, hO, hW, hWD⟩ := hv
  obtain ⟨hx, hb, -, -⟩ := id X
  have hl : lv_has ls 6 [(0, .ref sb), (1, .int w1), (2, .int w2), (3, .int w3), (4, .int w4)] := hl
  have hS : va_S (zRA ad adD) s.heap s.heap [] := va_S.rf
  refine lv_aload_n hx hb dL_addCanopy_0 rfl (lv_at hl 0 rfl) ?_
  refine lv_iload_n hx hb dL_addCanopy_1 rfl (lv_at hl 1 rfl) ?_
  refine lv_iload_n hx hb dL_addCanopy_2 rfl (lv_at hl 2 rfl) ?_
  refine lv_iload_n hx hb dL_addCanopy_3 rfl (lv_at hl 3 rfl) ?_
  refine lv_iload hx hb dL_addCanopy_4 (lv_at hl 4 rfl) ?_
  refine zcallCV (As := [.int w1, .int w2, .int w3, .int w4]) (rest := []) X hml hK hE ⟨hO, hW, hWD⟩ (ctX9_addCanopy l hl0 D cy rf sb ag ad σ adD δ hJ w1 w2 w3 w4 hV hc hfull) zmX9_addCanopy (by decide) m_798 (zrecv hK hO rfl) ⟨(Nat.le_of_ble_eq_true rfl), (Nat.le_of_ble_eq_true rfl)⟩ ⟨(Nat.le_of_ble_eq_true rfl), (Nat.le_of_ble_eq_true rfl)⟩ rfl hl.1 rfl (Nat.le_of_ble_eq_true rfl) dL_addCanopy_6 hS (fun _ h => h) (fun E ce q9 H locs hr0 hE0 hsz hfr hS hce hcv hcl => ?_) (fun h0 H locs hG9 hsz hfr hS => ?_)
  · replace hO := zO.kept hO (fun hq => hfr _ hq)
    replace hW := zW.kept hW (fun q hq => hfr q (hW.lt hq))
    replace hWD := zW.kept hWD (fun q hq => hfr q (hWD.lt hq))
    rcases (zr_2 σ w1 w2 w3 w4) with h0 | h0 | h0
    · exact absurd h0 hr0
    · rw [hE0, h0] at hcl
      refine vx_catch (E := "java/lang/IllegalArgumentException") (name := "java/lang/IllegalArgumentException") X.2.2.1 [] (zte 0 9 10 20) [zte 0 9 15 22] (hex.trans rfl) (fun _ h => nomatch h) (by decide) (by decide) (X.2.2.2 _ m_647) (zcastX (X.2.2.2 _ m_16)) hce hcv hcl (?_ : W p l e _ s m _ below meth c _ _ _ _ _ (F0 m 10 ls [.ref q9]))
      refine lv_astore (lv' := [(5, .ref q9), (0, .ref sb), (1, .int w1), (2, .int w2), (3, .int w3), (4, .int w4)]) hx hb dL_addCanopy_10 hl (by decide) rfl (fun ls hl => ?_)
      refine lv_bipush (v := (-78)) hx hb dL_addCanopy_12 (by decide) ?_
      exact zo_i hx hb hr hlocks (zans_2 h0).symm (by rw [k_nS_1 hr0, k_nD_1 hr0]; exact ⟨hO, hW, hWD⟩) hS (Nat.le_of_ble_eq_true rfl) (Nat.le_of_ble_eq_true rfl) dL_addCanopy_14
    · rw [hE0, h0] at hcl
      refine vx_catch (E := "java/lang/IllegalStateException") (name := "java/lang/IllegalStateException") X.2.2.1 [zte 0 9 10 20] (zte 0 9 15 22) [] (hex.trans rfl) (List.forall_mem_cons.mpr ⟨Or.inr ⟨by decide, "java/lang/IllegalArgumentException", X.2.2.2 _ m_647, hN 4 2 (by decide) (by decide) (by decide) (by decide) (by decide)⟩, (fun _ h => nomatch h)⟩) (by decide) (by decide) (X.2.2.2 _ m_648) (zcastX (X.2.2.2 _ m_18)) hce hcv hcl (?_ : W p l e _ s m _ below meth c _ _ _ _ _ (F0 m 15 ls [.ref q9]))
      refine lv_astore (lv' := [(5, .ref q9), (0, .ref sb), (1, .int w1), (2, .int w2), (3, .int w3), (4, .int w4)]) hx hb dL_addCanopy_15 hl (by decide) rfl (fun ls hl => ?_)
      refine lv_bipush (v := (-79)) hx hb dL_addCanopy_17 (by decide) ?_
      exact zo_i hx hb hr hlocks (zans_4 h0).symm (by rw [k_nS_1 hr0, k_nD_1 hr0]; exact ⟨hO, hW, hWD⟩) hS (Nat.le_of_ble_eq_true rfl) (Nat.le_of_ble_eq_true rfl) dL_addCanopy_19
  · obtain ⟨hO, hW, hWD⟩ := hG9
    exact zo_i hx hb hr hlocks (zans_0 h0).symm (by rw [k_nS_0 h0, k_nD_0 h0]; exact ⟨hO, hW, hWD⟩) hS (Nat.le_of_ble_eq_true rfl) (Nat.le_of_ble_eq_true rfl) dL_addCanopy_9
theorem zr_3 (σ : zS) (w1 w2 w3 w4 : Int32) : k_ref σ (nI 3) w1 w2 w3 w4 = 0 ∨ k_ref σ (nI 3) w1 w2 w3 w4 = 2 := by
  rw [show nI 3 = 3 from rfl, k_ref_3]
  suffices h : (fun r : Nat => r = 0 ∨ r = 2) (r_X8_refusalOf_3 σ w1 w2 w3 w4) from h
  unfold r_X8_refusalOf_3
  repeat' (first | refine zite (P := fun r : Nat => r = 0 ∨ r = 2) ?_ ?_ | exact (by decide))
theorem zmL_setPeriod : zmW yL_setPeriod RL cL_setPeriod 3 (some .int) [(0, 5, 6, 20)] 2 := ⟨m_1218, m_0, m_1219, rfl, by decide, by decide, by decide +kernel⟩
set_option maxRecDepth 100000 in
set_option maxHeartbeats 4000000 in
theorem ctL_setPeriod (l : Launch) (hl0 : l.stackTraces = false) (D : va_G) (cy : Nat → ClassId) (rf : Nat → Nat) (sb ag : Nat) (ad : Nat → Nat → Nat) (σ : zS) (adD : Nat → Nat → Nat) (δ : zS) (hJ : zJ sb ad adD) (w1 : Int32) (hV : zV σ) (hc : zbd δ 200 512) (hfull : k_full δ = false) : Met l yL_setPeriod (zww yL_setPeriod cL_setPeriod 3 (some .int) [(0, 5, 6, 20)]) (zrx 9 1 6) (va_Pc [.ref sb, .int w1] (zBN D cy rf (zSA D cy sb ag ad σ adD δ))) (zqM (some (.int (zans (k_ref σ (nI 3) w1 0 0 0) (k_pr σ (nI 3) w1 0 0 0)))) (zSA D cy sb ag ad (k_nS σ 3 w1 0 0 0) adD (k_nD σ δ 3 w1 0 0 0)) (zRA ad adD)) 1 6 (zRA ad adD) := by
  refine zmetW (by decide) rfl (Nat.le_of_ble_eq_true rfl) rfl (fun p e s m below meth c ls X hml hr hlocks hex hv hl => ?_)
  obtain ⟨hK, hE, hN, hO, hW, hWD⟩ := hv
  obtain ⟨hx, hb, -, -⟩ := id X
  have hl : lv_has ls 3 [(0, .ref sb), (1, .int w1)] := hl
  have hS : va_S (zRA ad adD) s.heap s.heap [] := va_S.rf
  refine lv_aload_n hx hb dL_setPeriod_0 rfl (lv_at hl 0 rfl) ?_
  refine lv_iload_n hx hb dL_setPeriod_1 rfl (lv_at hl 1 rfl) ?_
  refine zcallCV (As := [.int w1]) (rest := []) X hml hK hE ⟨hO, hW, hWD⟩ (ctX9_setPeriod l hl0 D cy rf sb ag ad σ adD δ hJ w1 hV hc hfull) zmX9_setPeriod (by decide) m_1220 (zrecv hK hO rfl) ⟨(Nat.le_of_ble_eq_true rfl), (Nat.le_of_ble_eq_true rfl)⟩ ⟨(Nat.le_of_ble_eq_true rfl), (Nat.le_of_ble_eq_true rfl)⟩ rfl hl.1 rfl (Nat.le_of_ble_eq_true rfl) dL_setPeriod_2 hS (fun _ h => h) (fun E ce q9 H locs hr0 hE0 hsz hfr hS hce hcv hcl => ?_) (fun h0 H locs hG9 hsz hfr hS => ?_)
  · replace hO := zO.kept hO (fun hq => hfr _ hq)
    replace hW := zW.kept hW (fun q hq => hfr q (hW.lt hq))
    replace hWD := zW.kept hWD (fun q hq => hfr q (hWD.lt hq))
    rcases (zr_3 σ w1 0 0 0) with h0 | h0
    · exact absurd h0 hr0
    · rw [hE0, h0] at hcl
      refine vx_catch (E := "java/lang/IllegalArgumentException") (name := "java/lang/IllegalArgumentException") X.2.2.1 [] (zte 0 5 6 20) [] (hex.trans rfl) (fun _ h => nomatch h) (by decide) (by decide) (X.2.2.2 _ m_647) (zcastX (X.2.2.2 _ m_16)) hce hcv hcl (?_ : W p l e _ s m _ below meth c _ _ _ _ _ (F0 m 6 ls [.ref q9]))
      refine lv_astore_n (lv' := [(2, .ref q9), (0, .ref sb), (1, .int w1)]) hx hb dL_setPeriod_6 rfl hl (by decide) rfl (fun ls hl => ?_)
      refine lv_bipush (v := (-78)) hx hb dL_setPeriod_7 (by decide) ?_
      exact zo_i hx hb hr hlocks (zans_2 h0).symm (by rw [k_nS_1 hr0, k_nD_1 hr0]; exact ⟨hO, hW, hWD⟩) hS (Nat.le_of_ble_eq_true rfl) (Nat.le_of_ble_eq_true rfl) dL_setPeriod_9
  · obtain ⟨hO, hW, hWD⟩ := hG9
    exact zo_i hx hb hr hlocks (zans_0 h0).symm (by rw [k_nS_0 h0, k_nD_0 h0]; exact ⟨hO, hW, hWD⟩) hS (Nat.le_of_ble_eq_true rfl) (Nat.le_of_ble_eq_true rfl) dL_setPeriod_5
theorem zr_4 (σ : zS) (w1 w2 w3 w4 : Int32) : k_ref σ (nI 4) w1 w2 w3 w4 = 0 ∨ k_ref σ (nI 4) w1 w2 w3 w4 = 2 ∨ k_ref σ (nI 4) w1 w2 w3 w4 = 4 := by
  rw [show nI 4 = 4 from rfl, k_ref_4]
  suffices h : (fun r : Nat => r = 0 ∨ r = 2 ∨ r = 4) (r_X8_refusalOf_4 σ w1 w2 w3 w4) from h
  unfold r_X8_refusalOf_4 r_X8_ofGoOn
  repeat' (first | refine zite (P := fun r : Nat => r = 0 ∨ r = 2 ∨ r = 4) ?_ ?_ | exact (by decide))
theorem zmL_goOn : zmW yL_goOn RL cL_goOn 3 (some .int) [(0, 5, 6, 20), (0, 5, 10, 22)] 2 := ⟨m_1024, m_0, m_1025, rfl, by decide, by decide, by decide +kernel⟩
set_option maxRecDepth 100000 in
set_option maxHeartbeats 4000000 in
theorem ctL_goOn (l : Launch) (hl0 : l.stackTraces = false) (D : va_G) (cy : Nat → ClassId) (rf : Nat → Nat) (sb ag : Nat) (ad : Nat → Nat → Nat) (σ : zS) (adD : Nat → Nat → Nat) (δ : zS) (hJ : zJ sb ad adD) (w1 : Int32) (hV : zV σ) (hc : zbd δ 200 512) (hfull : k_full δ = false) : Met l yL_goOn (zww yL_goOn cL_goOn 3 (some .int) [(0, 5, 6, 20), (0, 5, 10, 22)]) (zrx 9 1 6) (va_Pc [.ref sb, .int w1] (zBN D cy rf (zSA D cy sb ag ad σ adD δ))) (zqM (some (.int (zans (k_ref σ (nI 4) w1 0 0 0) (k_pr σ (nI 4) w1 0 0 0)))) (zSA D cy sb ag ad (k_nS σ 4 w1 0 0 0) adD (k_nD σ δ 4 w1 0 0 0)) (zRA ad adD)) 1 6 (zRA ad adD) := by
  refine zmetW (by decide) rfl (Nat.le_of_ble_eq_true rfl) rfl (fun p e s m below meth c ls X hml hr hlocks hex hv hl => ?_)
  obtain ⟨hK, hE, hN, hO, hW, hWD⟩ := hv
  obtain ⟨hx, hb, -, -⟩ := id X
  have hl : lv_has ls 3 [(0, .ref sb), (1, .int w1)] := hl
  have hS : va_S (zRA ad adD) s.heap s.heap [] := va_S.rf
  refine lv_aload_n hx hb dL_goOn_0 rfl (lv_at hl 0 rfl) ?_
  refine lv_iload_n hx hb dL_goOn_1 rfl (lv_at hl 1 rfl) ?_
  refine zcallCV (As := [.int w1]) (rest := []) X hml hK hE ⟨hO, hW, hWD⟩ (ctX9_goOn l hl0 D cy rf sb ag ad σ adD δ hJ w1 hV hc hfull) zmX9_goOn (by decide) m_1026 (zrecv hK hO rfl) ⟨(Nat.le_of_ble_eq_true rfl), (Nat.le_of_ble_eq_true rfl)⟩ ⟨(Nat.le_of_ble_eq_true rfl), (Nat.le_of_ble_eq_true rfl)⟩ rfl hl.1 rfl (Nat.le_of_ble_eq_true rfl) dL_goOn_2 hS (fun _ h => h) (fun E ce q9 H locs hr0 hE0 hsz hfr hS hce hcv hcl => ?_) (fun h0 H locs hG9 hsz hfr hS => ?_)
  · replace hO := zO.kept hO (fun hq => hfr _ hq)
    replace hW := zW.kept hW (fun q hq => hfr q (hW.lt hq))
    replace hWD := zW.kept hWD (fun q hq => hfr q (hWD.lt hq))
    rcases (zr_4 σ w1 0 0 0) with h0 | h0 | h0
    · exact absurd h0 hr0
    · rw [hE0, h0] at hcl
      refine vx_catch (E := "java/lang/IllegalArgumentException") (name := "java/lang/IllegalArgumentException") X.2.2.1 [] (zte 0 5 6 20) [zte 0 5 10 22] (hex.trans rfl) (fun _ h => nomatch h) (by decide) (by decide) (X.2.2.2 _ m_647) (zcastX (X.2.2.2 _ m_16)) hce hcv hcl (?_ : W p l e _ s m _ below meth c _ _ _ _ _ (F0 m 6 ls [.ref q9]))
      refine lv_astore_n (lv' := [(2, .ref q9), (0, .ref sb), (1, .int w1)]) hx hb dL_goOn_6 rfl hl (by decide) rfl (fun ls hl => ?_)
      refine lv_bipush (v := (-78)) hx hb dL_goOn_7 (by decide) ?_
      exact zo_i hx hb hr hlocks (zans_2 h0).symm (by rw [k_nS_1 hr0, k_nD_1 hr0]; exact ⟨hO, hW, hWD⟩) hS (Nat.le_of_ble_eq_true rfl) (Nat.le_of_ble_eq_true rfl) dL_goOn_9
    · rw [hE0, h0] at hcl
      refine vx_catch (E := "java/lang/IllegalStateException") (name := "java/lang/IllegalStateException") X.2.2.1 [zte 0 5 6 20] (zte 0 5 10 22) [] (hex.trans rfl) (List.forall_mem_cons.mpr ⟨Or.inr ⟨by decide, "java/lang/IllegalArgumentException", X.2.2.2 _ m_647, hN 4 2 (by decide) (by decide) (by decide) (by decide) (by decide)⟩, (fun _ h => nomatch h)⟩) (by decide) (by decide) (X.2.2.2 _ m_648) (zcastX (X.2.2.2 _ m_18)) hce hcv hcl (?_ : W p l e _ s m _ below meth c _ _ _ _ _ (F0 m 10 ls [.ref q9]))
      refine lv_astore_n (lv' := [(2, .ref q9), (0, .ref sb), (1, .int w1)]) hx hb dL_goOn_10 rfl hl (by decide) rfl (fun ls hl => ?_)
      refine lv_bipush (v := (-79)) hx hb dL_goOn_11 (by decide) ?_
      exact zo_i hx hb hr hlocks (zans_4 h0).symm (by rw [k_nS_1 hr0, k_nD_1 hr0]; exact ⟨hO, hW, hWD⟩) hS (Nat.le_of_ble_eq_true rfl) (Nat.le_of_ble_eq_true rfl) dL_goOn_13
  · obtain ⟨hO, hW, hWD⟩ := hG9
    exact zo_i hx hb hr hlocks (zans_0 h0).symm (by rw [k_nS_0 h0, k_nD_0 h0]; exact ⟨hO, hW, hWD⟩) hS (Nat.le_of_ble_eq_true rfl) (Nat.le_of_ble_eq_true rfl) dL_goOn_5
theorem zr_5 (σ : zS) (w1 w2 w3 w4 : Int32) : k_ref σ (nI 5) w1 w2 w3 w4 = 0 ∨ k_ref σ (nI 5) w1 w2 w3 w4 = 1 ∨ k_ref σ (nI 5) w1 w2 w3 w4 = 2 ∨ k_ref σ (nI 5) w1 w2 w3 w4 = 3 ∨ k_ref σ (nI 5) w1 w2 w3 w4 = 4 := by
  rw [show nI 5 = 5 from rfl, k_ref_5]
  suffices h : (fun r : Nat => r = 0 ∨ r = 1 ∨ r = 2 ∨ r = 3 ∨ r = 4) (r_X8_refusalOf_5 σ w1 w2 w3 w4) from h
  unfold r_X8_refusalOf_5 r_X8_ofHang
  repeat' (first | refine zite (P := fun r : Nat => r = 0 ∨ r = 1 ∨ r = 2 ∨ r = 3 ∨ r = 4) ?_ ?_ | exact (by decide))
theorem zmL_hang : zmW yL_hang RL cL_hang 4 (some .int) [(0, 6, 7, 38), (0, 6, 11, 20), (0, 6, 15, 40), (0, 6, 19, 22)] 3 := ⟨m_854, m_0, m_855, rfl, by decide, by decide, by decide +kernel⟩
set_option maxRecDepth 100000 in
set_option maxHeartbeats 4000000 in
theorem ctL_hang (l : Launch) (hl0 : l.stackTraces = false) (D : va_G) (cy : Nat → ClassId) (rf : Nat → Nat) (sb ag : Nat) (ad : Nat → Nat → Nat) (σ : zS) (adD : Nat → Nat → Nat) (δ : zS) (hJ : zJ sb ad adD) (w1 : Int32) (w2 : Int32) (hV : zV σ) (hc : zbd δ 200 512) (hfull : k_full δ = false) : Met l yL_hang (zww yL_hang cL_hang 4 (some .int) [(0, 6, 7, 38), (0, 6, 11, 20), (0, 6, 15, 40), (0, 6, 19, 22)]) (zrx 9 1 6) (va_Pc [.ref sb, .int w1, .int w2] (zBN D cy rf (zSA D cy sb ag ad σ adD δ))) (zqM (some (.int (zans (k_ref σ (nI 5) w1 w2 0 0) (k_pr σ (nI 5) w1 w2 0 0)))) (zSA D cy sb ag ad (k_nS σ 5 w1 w2 0 0) adD (k_nD σ δ 5 w1 w2 0 0)) (zRA ad adD)) 1 6 (zRA ad adD) := by
  refine zmetW (by decide) rfl (Nat.le_of_ble_eq_true rfl) rfl (fun p e s m below meth c ls X hml hr hlocks hex hv hl => ?_)
  obtain ⟨hK, hE, hN, hO, hW, hWD⟩ := hv
  obtain ⟨hx, hb, -, -⟩ := id X
  have hl : lv_has ls 4 [(0, .ref sb), (1, .int w1), (2, .int w2)] := hl
  have hS : va_S (zRA ad adD) s.heap s.heap [] := va_S.rf
  refine lv_aload_n hx hb dL_hang_0 rfl (lv_at hl 0 rfl) ?_
  refine lv_iload_n hx hb dL_hang_1 rfl (lv_at hl 1 rfl) ?_
  refine lv_iload_n hx hb dL_hang_2 rfl (lv_at hl 2 rfl) ?_
  refine zcallCV (As := [.int w1, .int w2]) (rest := []) X hml hK hE ⟨hO, hW, hWD⟩ (ctX9_hang l hl0 D cy rf sb ag ad σ adD δ hJ w1 w2 hV hc hfull) zmX9_hang (by decide) m_857 (zrecv hK hO rfl) ⟨(Nat.le_of_ble_eq_true rfl), (Nat.le_of_ble_eq_true rfl)⟩ ⟨(Nat.le_of_ble_eq_true rfl), (Nat.le_of_ble_eq_true rfl)⟩ rfl hl.1 rfl (Nat.le_of_ble_eq_true rfl) dL_hang_3 hS (fun _ h => h) (fun E ce q9 H locs hr0 hE0 hsz hfr hS hce hcv hcl => ?_) (fun h0 H locs hG9 hsz hfr hS => ?_)
  · replace hO := zO.kept hO (fun hq => hfr _ hq)
    replace hW := zW.kept hW (fun q hq => hfr q (hW.lt hq))
    replace hWD := zW.kept hWD (fun q hq => hfr q (hWD.lt hq))
    rcases (zr_5 σ w1 w2 0 0) with h0 | h0 | h0 | h0 | h0
    · exact absurd h0 hr0
    · rw [hE0, h0] at hcl
      refine vx_catch (E := "java/lang/IndexOutOfBoundsException") (name := "java/lang/IndexOutOfBoundsException") X.2.2.1 [] (zte 0 6 7 38) [zte 0 6 11 20, zte 0 6 15 40, zte 0 6 19 22] (hex.trans rfl) (fun _ h => nomatch h) (by decide) (by decide) (X.2.2.2 _ m_812) (zcastX (X.2.2.2 _ m_15)) hce hcv hcl (?_ : W p l e _ s m _ below meth c _ _ _ _ _ (F0 m 7 ls [.ref q9]))
      refine lv_astore_n (lv' := [(3, .ref q9), (0, .ref sb), (1, .int w1), (2, .int w2)]) hx hb dL_hang_7 rfl hl (by decide) rfl (fun ls hl => ?_)
      refine lv_bipush (v := (-77)) hx hb dL_hang_8 (by decide) ?_
      exact zo_i hx hb hr hlocks (zans_1 h0).symm (by rw [k_nS_1 hr0, k_nD_1 hr0]; exact ⟨hO, hW, hWD⟩) hS (Nat.le_of_ble_eq_true rfl) (Nat.le_of_ble_eq_true rfl) dL_hang_10
    · rw [hE0, h0] at hcl
      refine vx_catch (E := "java/lang/IllegalArgumentException") (name := "java/lang/IllegalArgumentException") X.2.2.1 [zte 0 6 7 38] (zte 0 6 11 20) [zte 0 6 15 40, zte 0 6 19 22] (hex.trans rfl) (List.forall_mem_cons.mpr ⟨Or.inr ⟨by decide, "java/lang/IndexOutOfBoundsException", X.2.2.2 _ m_812, hN 2 1 (by decide) (by decide) (by decide) (by decide) (by decide)⟩, (fun _ h => nomatch h)⟩) (by decide) (by decide) (X.2.2.2 _ m_647) (zcastX (X.2.2.2 _ m_16)) hce hcv hcl (?_ : W p l e _ s m _ below meth c _ _ _ _ _ (F0 m 11 ls [.ref q9]))
      refine lv_astore_n (lv' := [(3, .ref q9), (0, .ref sb), (1, .int w1), (2, .int w2)]) hx hb dL_hang_11 rfl hl (by decide) rfl (fun ls hl => ?_)
      refine lv_bipush (v := (-78)) hx hb dL_hang_12 (by decide) ?_
      exact zo_i hx hb hr hlocks (zans_2 h0).symm (by rw [k_nS_1 hr0, k_nD_1 hr0]; exact ⟨hO, hW, hWD⟩) hS (Nat.le_of_ble_eq_true rfl) (Nat.le_of_ble_eq_true rfl) dL_hang_14
    · rw [hE0, h0] at hcl
      refine vx_catch (E := "java/lang/UnsupportedOperationException") (name := "java/lang/UnsupportedOperationException") X.2.2.1 [zte 0 6 7 38, zte 0 6 11 20] (zte 0 6 15 40) [zte 0 6 19 22] (hex.trans rfl) (List.forall_mem_cons.mpr ⟨Or.inr ⟨by decide, "java/lang/IndexOutOfBoundsException", X.2.2.2 _ m_812, hN 3 1 (by decide) (by decide) (by decide) (by decide) (by decide)⟩, (List.forall_mem_cons.mpr ⟨Or.inr ⟨by decide, "java/lang/IllegalArgumentException", X.2.2.2 _ m_647, hN 3 2 (by decide) (by decide) (by decide) (by decide) (by decide)⟩, (fun _ h => nomatch h)⟩)⟩) (by decide) (by decide) (X.2.2.2 _ m_856) (zcastX (X.2.2.2 _ m_17)) hce hcv hcl (?_ : W p l e _ s m _ below meth c _ _ _ _ _ (F0 m 15 ls [.ref q9]))
      refine lv_astore_n (lv' := [(3, .ref q9), (0, .ref sb), (1, .int w1), (2, .int w2)]) hx hb dL_hang_15 rfl hl (by decide) rfl (fun ls hl => ?_)
      refine lv_bipush (v := (-76)) hx hb dL_hang_16 (by decide) ?_
      exact zo_i hx hb hr hlocks (zans_3 h0).symm (by rw [k_nS_1 hr0, k_nD_1 hr0]; exact ⟨hO, hW, hWD⟩) hS (Nat.le_of_ble_eq_true rfl) (Nat.le_of_ble_eq_true rfl) dL_hang_18
    · rw [hE0, h0] at hcl
      refine vx_catch (E := "java/lang/IllegalStateException") (name := "java/lang/IllegalStateException") X.2.2.1 [zte 0 6 7 38, zte 0 6 11 20, zte 0 6 15 40] (zte 0 6 19 22) [] (hex.trans rfl) (List.forall_mem_cons.mpr ⟨Or.inr ⟨by decide, "java/lang/IndexOutOfBoundsException", X.2.2.2 _ m_812, hN 4 1 (by decide) (by decide) (by decide) (by decide) (by decide)⟩, (List.forall_mem_cons.mpr ⟨Or.inr ⟨by decide, "java/lang/IllegalArgumentException", X.2.2.2 _ m_647, hN 4 2 (by decide) (by decide) (by decide) (by decide) (by decide)⟩, (List.forall_mem_cons.mpr ⟨Or.inr ⟨by decide, "java/lang/UnsupportedOperationException", X.2.2.2 _ m_856, hN 4 3 (by decide) (by decide) (by decide) (by decide) (by decide)⟩, (fun _ h => nomatch h)⟩)⟩)⟩) (by decide) (by decide) (X.2.2.2 _ m_648) (zcastX (X.2.2.2 _ m_18)) hce hcv hcl (?_ : W p l e _ s m _ below meth c _ _ _ _ _ (F0 m 19 ls [.ref q9]))
      refine lv_astore_n (lv' := [(3, .ref q9), (0, .ref sb), (1, .int w1), (2, .int w2)]) hx hb dL_hang_19 rfl hl (by decide) rfl (fun ls hl => ?_)
      refine lv_bipush (v := (-79)) hx hb dL_hang_20 (by decide) ?_
      exact zo_i hx hb hr hlocks (zans_4 h0).symm (by rw [k_nS_1 hr0, k_nD_1 hr0]; exact ⟨hO, hW, hWD⟩) hS (Nat.le_of_ble_eq_true rfl) (Nat.le_of_ble_eq_true rfl) dL_hang_22
  · obtain ⟨hO, hW, hWD⟩ := hG9
    exact zo_i hx hb hr hlocks (zans_0 h0).symm (by rw [k_nS_0 h0, k_nD_0 h0]; exact ⟨hO, hW, hWD⟩) hS (Nat.le_of_ble_eq_true rfl) (Nat.le_of_ble_eq_true rfl) dL_hang_6
theorem zr_6 (σ : zS) (w1 w2 w3 w4 : Int32) : k_ref σ (nI 6) w1 w2 w3 w4 = 0 ∨ k_ref σ (nI 6) w1 w2 w3 w4 = 1 ∨ k_ref σ (nI 6) w1 w2 w3 w4 = 3 ∨ k_ref σ (nI 6) w1 w2 w3 w4 = 2 := by
  rw [show nI 6 = 6 from rfl, k_ref_6]
  suffices h : (fun r : Nat => r = 0 ∨ r = 1 ∨ r = 3 ∨ r = 2) (r_X8_refusalOf_6 σ w1 w2 w3 w4) from h
  unfold r_X8_refusalOf_6 r_X8_ofStep
  repeat' (first | refine zite (P := fun r : Nat => r = 0 ∨ r = 1 ∨ r = 3 ∨ r = 2) ?_ ?_ | exact (by decide))
theorem zmL_step : zmW yL_step RL cL_step 4 (some .int) [(0, 6, 7, 38), (0, 6, 11, 40), (0, 6, 15, 20)] 3 := ⟨m_862, m_0, m_863, rfl, by decide, by decide, by decide +kernel⟩
set_option maxRecDepth 100000 in
set_option maxHeartbeats 4000000 in
theorem ctL_step (l : Launch) (hl0 : l.stackTraces = false) (D : va_G) (cy : Nat → ClassId) (rf : Nat → Nat) (sb ag : Nat) (ad : Nat → Nat → Nat) (σ : zS) (adD : Nat → Nat → Nat) (δ : zS) (hJ : zJ sb ad adD) (w1 : Int32) (w2 : Int32) (hV : zV σ) (hc : zbd δ 200 512) (hfull : k_full δ = false) : Met l yL_step (zww yL_step cL_step 4 (some .int) [(0, 6, 7, 38), (0, 6, 11, 40), (0, 6, 15, 20)]) (zrx 9 1 6) (va_Pc [.ref sb, .int w1, .int w2] (zBN D cy rf (zSA D cy sb ag ad σ adD δ))) (zqM (some (.int (zans (k_ref σ (nI 6) w1 w2 0 0) (k_pr σ (nI 6) w1 w2 0 0)))) (zSA D cy sb ag ad (k_nS σ 6 w1 w2 0 0) adD (k_nD σ δ 6 w1 w2 0 0)) (zRA ad adD)) 1 6 (zRA ad adD) := by
  refine zmetW (by decide) rfl (Nat.le_of_ble_eq_true rfl) rfl (fun p e s m below meth c ls X hml hr hlocks hex hv hl => ?_)
  obtain ⟨hK, hE, hN, hO, hW, hWD⟩ := hv
  obtain ⟨hx, hb, -, -⟩ := id X
  have hl : lv_has ls 4 [(0, .ref sb), (1, .int w1), (2, .int w2)] := hl
  have hS : va_S (zRA ad adD) s.heap s.heap [] := va_S.rf
  refine lv_aload_n hx hb dL_step_0 rfl (lv_at hl 0 rfl) ?_
  refine lv_iload_n hx hb dL_step_1 rfl (lv_at hl 1 rfl) ?_
  refine lv_iload_n hx hb dL_step_2 rfl (lv_at hl 2 rfl) ?_
  refine zcallCV (As := [.int w1, .int w2]) (rest := []) X hml hK hE ⟨hO, hW, hWD⟩ (ctX9_step l hl0 D cy rf sb ag ad σ adD δ hJ w1 w2 hV hc hfull) zmX9_step (by decide) m_864 (zrecv hK hO rfl) ⟨(Nat.le_of_ble_eq_true rfl), (Nat.le_of_ble_eq_true rfl)⟩ ⟨(Nat.le_of_ble_eq_true rfl), (Nat.le_of_ble_eq_true rfl)⟩ rfl hl.1 rfl (Nat.le_of_ble_eq_true rfl) dL_step_3 hS (fun _ h => h) (fun E ce q9 H locs hr0 hE0 hsz hfr hS hce hcv hcl => ?_) (fun h0 H locs hG9 hsz hfr hS => ?_)
  · replace hO := zO.kept hO (fun hq => hfr _ hq)
    replace hW := zW.kept hW (fun q hq => hfr q (hW.lt hq))
    replace hWD := zW.kept hWD (fun q hq => hfr q (hWD.lt hq))
    rcases (zr_6 σ w1 w2 0 0) with h0 | h0 | h0 | h0
    · exact absurd h0 hr0
    · rw [hE0, h0] at hcl
      refine vx_catch (E := "java/lang/IndexOutOfBoundsException") (name := "java/lang/IndexOutOfBoundsException") X.2.2.1 [] (zte 0 6 7 38) [zte 0 6 11 40, zte 0 6 15 20] (hex.trans rfl) (fun _ h => nomatch h) (by decide) (by decide) (X.2.2.2 _ m_812) (zcastX (X.2.2.2 _ m_15)) hce hcv hcl (?_ : W p l e _ s m _ below meth c _ _ _ _ _ (F0 m 7 ls [.ref q9]))
      refine lv_astore_n (lv' := [(3, .ref q9), (0, .ref sb), (1, .int w1), (2, .int w2)]) hx hb dL_step_7 rfl hl (by decide) rfl (fun ls hl => ?_)
      refine lv_bipush (v := (-77)) hx hb dL_step_8 (by decide) ?_
      exact zo_i hx hb hr hlocks (zans_1 h0).symm (by rw [k_nS_1 hr0, k_nD_1 hr0]; exact ⟨hO, hW, hWD⟩) hS (Nat.le_of_ble_eq_true rfl) (Nat.le_of_ble_eq_true rfl) dL_step_10
    · rw [hE0, h0] at hcl
      refine vx_catch (E := "java/lang/UnsupportedOperationException") (name := "java/lang/UnsupportedOperationException") X.2.2.1 [zte 0 6 7 38] (zte 0 6 11 40) [zte 0 6 15 20] (hex.trans rfl) (List.forall_mem_cons.mpr ⟨Or.inr ⟨by decide, "java/lang/IndexOutOfBoundsException", X.2.2.2 _ m_812, hN 3 1 (by decide) (by decide) (by decide) (by decide) (by decide)⟩, (fun _ h => nomatch h)⟩) (by decide) (by decide) (X.2.2.2 _ m_856) (zcastX (X.2.2.2 _ m_17)) hce hcv hcl (?_ : W p l e _ s m _ below meth c _ _ _ _ _ (F0 m 11 ls [.ref q9]))
      refine lv_astore_n (lv' := [(3, .ref q9), (0, .ref sb), (1, .int w1), (2, .int w2)]) hx hb dL_step_11 rfl hl (by decide) rfl (fun ls hl => ?_)
      refine lv_bipush (v := (-76)) hx hb dL_step_12 (by decide) ?_
      exact zo_i hx hb hr hlocks (zans_3 h0).symm (by rw [k_nS_1 hr0, k_nD_1 hr0]; exact ⟨hO, hW, hWD⟩) hS (Nat.le_of_ble_eq_true rfl) (Nat.le_of_ble_eq_true rfl) dL_step_14
    · rw [hE0, h0] at hcl
      refine vx_catch (E := "java/lang/IllegalArgumentException") (name := "java/lang/IllegalArgumentException") X.2.2.1 [zte 0 6 7 38, zte 0 6 11 40] (zte 0 6 15 20) [] (hex.trans rfl) (List.forall_mem_cons.mpr ⟨Or.inr ⟨by decide, "java/lang/IndexOutOfBoundsException", X.2.2.2 _ m_812, hN 2 1 (by decide) (by decide) (by decide) (by decide) (by decide)⟩, (List.forall_mem_cons.mpr ⟨Or.inr ⟨by decide, "java/lang/UnsupportedOperationException", X.2.2.2 _ m_856, hN 2 3 (by decide) (by decide) (by decide) (by decide) (by decide)⟩, (fun _ h => nomatch h)⟩)⟩) (by decide) (by decide) (X.2.2.2 _ m_647) (zcastX (X.2.2.2 _ m_16)) hce hcv hcl (?_ : W p l e _ s m _ below meth c _ _ _ _ _ (F0 m 15 ls [.ref q9]))
      refine lv_astore_n (lv' := [(3, .ref q9), (0, .ref sb), (1, .int w1), (2, .int w2)]) hx hb dL_step_15 rfl hl (by decide) rfl (fun ls hl => ?_)
      refine lv_bipush (v := (-78)) hx hb dL_step_16 (by decide) ?_
      exact zo_i hx hb hr hlocks (zans_2 h0).symm (by rw [k_nS_1 hr0, k_nD_1 hr0]; exact ⟨hO, hW, hWD⟩) hS (Nat.le_of_ble_eq_true rfl) (Nat.le_of_ble_eq_true rfl) dL_step_18
  · obtain ⟨hO, hW, hWD⟩ := hG9
    exact zo_i hx hb hr hlocks (zans_0 h0).symm (by rw [k_nS_0 h0, k_nD_0 h0]; exact ⟨hO, hW, hWD⟩) hS (Nat.le_of_ble_eq_true rfl) (Nat.le_of_ble_eq_true rfl) dL_step_6
theorem zr_7 (σ : zS) (w1 w2 w3 w4 : Int32) : k_ref σ (nI 7) w1 w2 w3 w4 = 0 ∨ k_ref σ (nI 7) w1 w2 w3 w4 = 1 ∨ k_ref σ (nI 7) w1 w2 w3 w4 = 3 := by
  rw [show nI 7 = 7 from rfl, k_ref_7]
  suffices h : (fun r : Nat => r = 0 ∨ r = 1 ∨ r = 3) (r_X8_refusalOf_7 σ w1 w2 w3 w4) from h
  unfold r_X8_refusalOf_7 r_X8_ofCanopyIn
  repeat' (first | refine zite (P := fun r : Nat => r = 0 ∨ r = 1 ∨ r = 3) ?_ ?_ | exact (by decide))
theorem zmL_breakOff : zmW yL_breakOff RL cL_breakOff 3 (some .int) [(0, 5, 6, 38), (0, 5, 10, 40)] 2 := ⟨m_869, m_0, m_870, rfl, by decide, by decide, by decide +kernel⟩
set_option maxRecDepth 100000 in
set_option maxHeartbeats 4000000 in
theorem ctL_breakOff (l : Launch) (hl0 : l.stackTraces = false) (D : va_G) (cy : Nat → ClassId) (rf : Nat → Nat) (sb ag : Nat) (ad : Nat → Nat → Nat) (σ : zS) (adD : Nat → Nat → Nat) (δ : zS) (hJ : zJ sb ad adD) (w1 : Int32) (hV : zV σ) (hc : zbd δ 200 512) (hfull : k_full δ = false) : Met l yL_breakOff (zww yL_breakOff cL_breakOff 3 (some .int) [(0, 5, 6, 38), (0, 5, 10, 40)]) (zrx 9 1 6) (va_Pc [.ref sb, .int w1] (zBN D cy rf (zSA D cy sb ag ad σ adD δ))) (zqM (some (.int (zans (k_ref σ (nI 7) w1 0 0 0) (k_pr σ (nI 7) w1 0 0 0)))) (zSA D cy sb ag ad (k_nS σ 7 w1 0 0 0) adD (k_nD σ δ 7 w1 0 0 0)) (zRA ad adD)) 1 6 (zRA ad adD) := by
  refine zmetW (by decide) rfl (Nat.le_of_ble_eq_true rfl) rfl (fun p e s m below meth c ls X hml hr hlocks hex hv hl => ?_)
  obtain ⟨hK, hE, hN, hO, hW, hWD⟩ := hv
  obtain ⟨hx, hb, -, -⟩ := id X
  have hl : lv_has ls 3 [(0, .ref sb), (1, .int w1)] := hl
  have hS : va_S (zRA ad adD) s.heap s.heap [] := va_S.rf
  refine lv_aload_n hx hb dL_breakOff_0 rfl (lv_at hl 0 rfl) ?_
  refine lv_iload_n hx hb dL_breakOff_1 rfl (lv_at hl 1 rfl) ?_
  refine zcallCV (As := [.int w1]) (rest := []) X hml hK hE ⟨hO, hW, hWD⟩ (ctX9_breakOff l hl0 D cy rf sb ag ad σ adD δ hJ w1 hV hc hfull) zmX9_breakOff (by decide) m_871 (zrecv hK hO rfl) ⟨(Nat.le_of_ble_eq_true rfl), (Nat.le_of_ble_eq_true rfl)⟩ ⟨(Nat.le_of_ble_eq_true rfl), (Nat.le_of_ble_eq_true rfl)⟩ rfl hl.1 rfl (Nat.le_of_ble_eq_true rfl) dL_breakOff_2 hS (fun _ h => h) (fun E ce q9 H locs hr0 hE0 hsz hfr hS hce hcv hcl => ?_) (fun h0 H locs hG9 hsz hfr hS => ?_)
  · replace hO := zO.kept hO (fun hq => hfr _ hq)
    replace hW := zW.kept hW (fun q hq => hfr q (hW.lt hq))
    replace hWD := zW.kept hWD (fun q hq => hfr q (hWD.lt hq))
    rcases (zr_7 σ w1 0 0 0) with h0 | h0 | h0
    · exact absurd h0 hr0
    · rw [hE0, h0] at hcl
      refine vx_catch (E := "java/lang/IndexOutOfBoundsException") (name := "java/lang/IndexOutOfBoundsException") X.2.2.1 [] (zte 0 5 6 38) [zte 0 5 10 40] (hex.trans rfl) (fun _ h => nomatch h) (by decide) (by decide) (X.2.2.2 _ m_812) (zcastX (X.2.2.2 _ m_15)) hce hcv hcl (?_ : W p l e _ s m _ below meth c _ _ _ _ _ (F0 m 6 ls [.ref q9]))
      refine lv_astore_n (lv' := [(2, .ref q9), (0, .ref sb), (1, .int w1)]) hx hb dL_breakOff_6 rfl hl (by decide) rfl (fun ls hl => ?_)
      refine lv_bipush (v := (-77)) hx hb dL_breakOff_7 (by decide) ?_
      exact zo_i hx hb hr hlocks (zans_1 h0).symm (by rw [k_nS_1 hr0, k_nD_1 hr0]; exact ⟨hO, hW, hWD⟩) hS (Nat.le_of_ble_eq_true rfl) (Nat.le_of_ble_eq_true rfl) dL_breakOff_9
    · rw [hE0, h0] at hcl
      refine vx_catch (E := "java/lang/UnsupportedOperationException") (name := "java/lang/UnsupportedOperationException") X.2.2.1 [zte 0 5 6 38] (zte 0 5 10 40) [] (hex.trans rfl) (List.forall_mem_cons.mpr ⟨Or.inr ⟨by decide, "java/lang/IndexOutOfBoundsException", X.2.2.2 _ m_812, hN 3 1 (by decide) (by decide) (by decide) (by decide) (by decide)⟩, (fun _ h => nomatch h)⟩) (by decide) (by decide) (X.2.2.2 _ m_856) (zcastX (X.2.2.2 _ m_17)) hce hcv hcl (?_ : W p l e _ s m _ below meth c _ _ _ _ _ (F0 m 10 ls [.ref q9]))
      refine lv_astore_n (lv' := [(2, .ref q9), (0, .ref sb), (1, .int w1)]) hx hb dL_breakOff_10 rfl hl (by decide) rfl (fun ls hl => ?_)
      refine lv_bipush (v := (-76)) hx hb dL_breakOff_11 (by decide) ?_
      exact zo_i hx hb hr hlocks (zans_3 h0).symm (by rw [k_nS_1 hr0, k_nD_1 hr0]; exact ⟨hO, hW, hWD⟩) hS (Nat.le_of_ble_eq_true rfl) (Nat.le_of_ble_eq_true rfl) dL_breakOff_13
  · obtain ⟨hO, hW, hWD⟩ := hG9
    exact zo_i hx hb hr hlocks (zans_0 h0).symm (by rw [k_nS_0 h0, k_nD_0 h0]; exact ⟨hO, hW, hWD⟩) hS (Nat.le_of_ble_eq_true rfl) (Nat.le_of_ble_eq_true rfl) dL_breakOff_5
theorem zr_8 (σ : zS) (w1 w2 w3 w4 : Int32) : k_ref σ (nI 8) w1 w2 w3 w4 = 0 ∨ k_ref σ (nI 8) w1 w2 w3 w4 = 4 := by
  rw [show nI 8 = 8 from rfl, k_ref_8]
  suffices h : (fun r : Nat => r = 0 ∨ r = 4) (r_X8_refusalOf_8 σ w1 w2 w3 w4) from h
  unfold r_X8_refusalOf_8
  repeat' (first | refine zite (P := fun r : Nat => r = 0 ∨ r = 4) ?_ ?_ | exact (by decide))
theorem zmL_load : zmW yL_load RL cL_load 2 (some .int) [(0, 4, 5, 22)] 1 := ⟨m_803, m_0, m_804, rfl, by decide, by decide, by decide +kernel⟩
set_option maxRecDepth 100000 in
set_option maxHeartbeats 4000000 in
theorem ctL_load (l : Launch) (hl0 : l.stackTraces = false) (D : va_G) (cy : Nat → ClassId) (rf : Nat → Nat) (sb ag : Nat) (ad : Nat → Nat → Nat) (σ : zS) (adD : Nat → Nat → Nat) (δ : zS) (hJ : zJ sb ad adD) (hV : zV σ) (hc : zbd δ 200 512) (hfull : k_full δ = false) : Met l yL_load (zww yL_load cL_load 2 (some .int) [(0, 4, 5, 22)]) (zrx 9 1 6) (va_Pc [.ref sb] (zBN D cy rf (zSA D cy sb ag ad σ adD δ))) (zqM (some (.int (zans (k_ref σ (nI 8) 0 0 0 0) (k_pr σ (nI 8) 0 0 0 0)))) (zSA D cy sb ag ad (k_nS σ 8 0 0 0 0) adD (k_nD σ δ 8 0 0 0 0)) (zRA ad adD)) 1 6 (zRA ad adD) := by
  refine zmetW (by decide) rfl (Nat.le_of_ble_eq_true rfl) rfl (fun p e s m below meth c ls X hml hr hlocks hex hv hl => ?_)
  obtain ⟨hK, hE, hN, hO, hW, hWD⟩ := hv
  obtain ⟨hx, hb, -, -⟩ := id X
  have hl : lv_has ls 2 [(0, .ref sb)] := hl
  have hS : va_S (zRA ad adD) s.heap s.heap [] := va_S.rf
  refine lv_aload_n hx hb dL_load_0 rfl (lv_at hl 0 rfl) ?_
  refine zcallCV (As := []) (rest := []) X hml hK hE ⟨hO, hW, hWD⟩ (ctX9_load l hl0 D cy rf sb ag ad σ adD δ hJ hV hc hfull) zmX9_load (by decide) m_805 (zrecv hK hO rfl) ⟨(Nat.le_of_ble_eq_true rfl), (Nat.le_of_ble_eq_true rfl)⟩ ⟨(Nat.le_of_ble_eq_true rfl), (Nat.le_of_ble_eq_true rfl)⟩ rfl hl.1 rfl (Nat.le_of_ble_eq_true rfl) dL_load_1 hS (fun _ h => h) (fun E ce q9 H locs hr0 hE0 hsz hfr hS hce hcv hcl => ?_) (fun h0 H locs hG9 hsz hfr hS => ?_)
  · replace hO := zO.kept hO (fun hq => hfr _ hq)
    replace hW := zW.kept hW (fun q hq => hfr q (hW.lt hq))
    replace hWD := zW.kept hWD (fun q hq => hfr q (hWD.lt hq))
    rcases (zr_8 σ 0 0 0 0) with h0 | h0
    · exact absurd h0 hr0
    · rw [hE0, h0] at hcl
      refine vx_catch (E := "java/lang/IllegalStateException") (name := "java/lang/IllegalStateException") X.2.2.1 [] (zte 0 4 5 22) [] (hex.trans rfl) (fun _ h => nomatch h) (by decide) (by decide) (X.2.2.2 _ m_648) (zcastX (X.2.2.2 _ m_18)) hce hcv hcl (?_ : W p l e _ s m _ below meth c _ _ _ _ _ (F0 m 5 ls [.ref q9]))
      refine lv_astore_n (lv' := [(1, .ref q9), (0, .ref sb)]) hx hb dL_load_5 rfl hl (by decide) rfl (fun ls hl => ?_)
      refine lv_bipush (v := (-79)) hx hb dL_load_6 (by decide) ?_
      exact zo_i hx hb hr hlocks (zans_4 h0).symm (by rw [k_nS_1 hr0, k_nD_1 hr0]; exact ⟨hO, hW, hWD⟩) hS (Nat.le_of_ble_eq_true rfl) (Nat.le_of_ble_eq_true rfl) dL_load_8
  · obtain ⟨hO, hW, hWD⟩ := hG9
    exact zo_i hx hb hr hlocks (zans_0 h0).symm (by rw [k_nS_0 h0, k_nD_0 h0]; exact ⟨hO, hW, hWD⟩) hS (Nat.le_of_ble_eq_true rfl) (Nat.le_of_ble_eq_true rfl) dL_load_4
theorem zr_9 (σ : zS) (w1 w2 w3 w4 : Int32) : k_ref σ (nI 9) w1 w2 w3 w4 = 0 ∨ k_ref σ (nI 9) w1 w2 w3 w4 = 1 ∨ k_ref σ (nI 9) w1 w2 w3 w4 = 2 ∨ k_ref σ (nI 9) w1 w2 w3 w4 = 3 ∨ k_ref σ (nI 9) w1 w2 w3 w4 = 4 := by
  rw [show nI 9 = 9 from rfl, k_ref_9]
  suffices h : (fun r : Nat => r = 0 ∨ r = 1 ∨ r = 2 ∨ r = 3 ∨ r = 4) (r_X8_refusalOf_9 σ w1 w2 w3 w4) from h
  unfold r_X8_refusalOf_9 r_X8_ofBoard
  repeat' (first | refine zite (P := fun r : Nat => r = 0 ∨ r = 1 ∨ r = 2 ∨ r = 3 ∨ r = 4) ?_ ?_ | exact (by decide))
theorem zmL_board : zmW yL_board RL cL_board 5 (some .int) [(0, 7, 8, 38), (0, 7, 13, 20), (0, 7, 18, 40), (0, 7, 23, 22)] 4 := ⟨m_876, m_0, m_877, rfl, by decide, by decide, by decide +kernel⟩
set_option maxRecDepth 100000 in
set_option maxHeartbeats 4000000 in
theorem ctL_board (l : Launch) (hl0 : l.stackTraces = false) (D : va_G) (cy : Nat → ClassId) (rf : Nat → Nat) (sb ag : Nat) (ad : Nat → Nat → Nat) (σ : zS) (adD : Nat → Nat → Nat) (δ : zS) (hJ : zJ sb ad adD) (w1 : Int32) (w2 : Int32) (w3 : Int32) (hV : zV σ) (hc : zbd δ 200 512) (hfull : k_full δ = false) : Met l yL_board (zww yL_board cL_board 5 (some .int) [(0, 7, 8, 38), (0, 7, 13, 20), (0, 7, 18, 40), (0, 7, 23, 22)]) (zrx 9 1 6) (va_Pc [.ref sb, .int w1, .int w2, .int w3] (zBN D cy rf (zSA D cy sb ag ad σ adD δ))) (zqM (some (.int (zans (k_ref σ (nI 9) w1 w2 w3 0) (k_pr σ (nI 9) w1 w2 w3 0)))) (zSA D cy sb ag ad (k_nS σ 9 w1 w2 w3 0) adD (k_nD σ δ 9 w1 w2 w3 0)) (zRA ad adD)) 1 6 (zRA ad adD) := by
  refine zmetW (by decide) rfl (Nat.le_of_ble_eq_true rfl) rfl (fun p e s m below meth c ls X hml hr hlocks hex hv hl => ?_)
  obtain ⟨hK, hE, hN, hO, hW, hWD⟩ := hv
  obtain ⟨hx, hb, -, -⟩ := id X
  have hl : lv_has ls 5 [(0, .ref sb), (1, .int w1), (2, .int w2), (3, .int w3)] := hl
  have hS : va_S (zRA ad adD) s.heap s.heap [] := va_S.rf
  refine lv_aload_n hx hb dL_board_0 rfl (lv_at hl 0 rfl) ?_
  refine lv_iload_n hx hb dL_board_1 rfl (lv_at hl 1 rfl) ?_
  refine lv_iload_n hx hb dL_board_2 rfl (lv_at hl 2 rfl) ?_
  refine lv_iload_n hx hb dL_board_3 rfl (lv_at hl 3 rfl) ?_
  refine zcallCV (As := [.int w1, .int w2, .int w3]) (rest := []) X hml hK hE ⟨hO, hW, hWD⟩ (ctX9_board l hl0 D cy rf sb ag ad σ adD δ hJ w1 w2 w3 hV hc hfull) zmX9_board (by decide) m_878 (zrecv hK hO rfl) ⟨(Nat.le_of_ble_eq_true rfl), (Nat.le_of_ble_eq_true rfl)⟩ ⟨(Nat.le_of_ble_eq_true rfl), (Nat.le_of_ble_eq_true rfl)⟩ rfl hl.1 rfl (Nat.le_of_ble_eq_true rfl) dL_board_4 hS (fun _ h => h) (fun E ce q9 H locs hr0 hE0 hsz hfr hS hce hcv hcl => ?_) (fun h0 H locs hG9 hsz hfr hS => ?_)
  · replace hO := zO.kept hO (fun hq => hfr _ hq)
    replace hW := zW.kept hW (fun q hq => hfr q (hW.lt hq))
    replace hWD := zW.kept hWD (fun q hq => hfr q (hWD.lt hq))
    rcases (zr_9 σ w1 w2 w3 0) with h0 | h0 | h0 | h0 | h0
    · exact absurd h0 hr0
    · rw [hE0, h0] at hcl
      refine vx_catch (E := "java/lang/IndexOutOfBoundsException") (name := "java/lang/IndexOutOfBoundsException") X.2.2.1 [] (zte 0 7 8 38) [zte 0 7 13 20, zte 0 7 18 40, zte 0 7 23 22] (hex.trans rfl) (fun _ h => nomatch h) (by decide) (by decide) (X.2.2.2 _ m_812) (zcastX (X.2.2.2 _ m_15)) hce hcv hcl (?_ : W p l e _ s m _ below meth c _ _ _ _ _ (F0 m 8 ls [.ref q9]))
      refine lv_astore (lv' := [(4, .ref q9), (0, .ref sb), (1, .int w1), (2, .int w2), (3, .int w3)]) hx hb dL_board_8 hl (by decide) rfl (fun ls hl => ?_)
      refine lv_bipush (v := (-77)) hx hb dL_board_10 (by decide) ?_
      exact zo_i hx hb hr hlocks (zans_1 h0).symm (by rw [k_nS_1 hr0, k_nD_1 hr0]; exact ⟨hO, hW, hWD⟩) hS (Nat.le_of_ble_eq_true rfl) (Nat.le_of_ble_eq_true rfl) dL_board_12
    · rw [hE0, h0] at hcl
      refine vx_catch (E := "java/lang/IllegalArgumentException") (name := "java/lang/IllegalArgumentException") X.2.2.1 [zte 0 7 8 38] (zte 0 7 13 20) [zte 0 7 18 40, zte 0 7 23 22] (hex.trans rfl) (List.forall_mem_cons.mpr ⟨Or.inr ⟨by decide, "java/lang/IndexOutOfBoundsException", X.2.2.2 _ m_812, hN 2 1 (by decide) (by decide) (by decide) (by decide) (by decide)⟩, (fun _ h => nomatch h)⟩) (by decide) (by decide) (X.2.2.2 _ m_647) (zcastX (X.2.2.2 _ m_16)) hce hcv hcl (?_ : W p l e _ s m _ below meth c _ _ _ _ _ (F0 m 13 ls [.ref q9]))
      refine lv_astore (lv' := [(4, .ref q9), (0, .ref sb), (1, .int w1), (2, .int w2), (3, .int w3)]) hx hb dL_board_13 hl (by decide) rfl (fun ls hl => ?_)
      refine lv_bipush (v := (-78)) hx hb dL_board_15 (by decide) ?_
      exact zo_i hx hb hr hlocks (zans_2 h0).symm (by rw [k_nS_1 hr0, k_nD_1 hr0]; exact ⟨hO, hW, hWD⟩) hS (Nat.le_of_ble_eq_true rfl) (Nat.le_of_ble_eq_true rfl) dL_board_17
    · rw [hE0, h0] at hcl
      refine vx_catch (E := "java/lang/UnsupportedOperationException") (name := "java/lang/UnsupportedOperationException") X.2.2.1 [zte 0 7 8 38, zte 0 7 13 20] (zte 0 7 18 40) [zte 0 7 23 22] (hex.trans rfl) (List.forall_mem_cons.mpr ⟨Or.inr ⟨by decide, "java/lang/IndexOutOfBoundsException", X.2.2.2 _ m_812, hN 3 1 (by decide) (by decide) (by decide) (by decide) (by decide)⟩, (List.forall_mem_cons.mpr ⟨Or.inr ⟨by decide, "java/lang/IllegalArgumentException", X.2.2.2 _ m_647, hN 3 2 (by decide) (by decide) (by decide) (by decide) (by decide)⟩, (fun _ h => nomatch h)⟩)⟩) (by decide) (by decide) (X.2.2.2 _ m_856) (zcastX (X.2.2.2 _ m_17)) hce hcv hcl (?_ : W p l e _ s m _ below meth c _ _ _ _ _ (F0 m 18 ls [.ref q9]))
      refine lv_astore (lv' := [(4, .ref q9), (0, .ref sb), (1, .int w1), (2, .int w2), (3, .int w3)]) hx hb dL_board_18 hl (by decide) rfl (fun ls hl => ?_)
      refine lv_bipush (v := (-76)) hx hb dL_board_20 (by decide) ?_
      exact zo_i hx hb hr hlocks (zans_3 h0).symm (by rw [k_nS_1 hr0, k_nD_1 hr0]; exact ⟨hO, hW, hWD⟩) hS (Nat.le_of_ble_eq_true rfl) (Nat.le_of_ble_eq_true rfl) dL_board_22
    · rw [hE0, h0] at hcl
      refine vx_catch (E := "java/lang/IllegalStateException") (name := "java/lang/IllegalStateException") X.2.2.1 [zte 0 7 8 38, zte 0 7 13 20, zte 0 7 18 40] (zte 0 7 23 22) [] (hex.trans rfl) (List.forall_mem_cons.mpr ⟨Or.inr ⟨by decide, "java/lang/IndexOutOfBoundsException", X.2.2.2 _ m_812, hN 4 1 (by decide) (by decide) (by decide) (by decide) (by decide)⟩, (List.forall_mem_cons.mpr ⟨Or.inr ⟨by decide, "java/lang/IllegalArgumentException", X.2.2.2 _ m_647, hN 4 2 (by decide) (by decide) (by decide) (by decide) (by decide)⟩, (List.forall_mem_cons.mpr ⟨Or.inr ⟨by decide, "java/lang/UnsupportedOperationException", X.2.2.2 _ m_856, hN 4 3 (by decide) (by decide) (by decide) (by decide) (by decide)⟩, (fun _ h => nomatch h)⟩)⟩)⟩) (by decide) (by decide) (X.2.2.2 _ m_648) (zcastX (X.2.2.2 _ m_18)) hce hcv hcl (?_ : W p l e _ s m _ below meth c _ _ _ _ _ (F0 m 23 ls [.ref q9]))
      refine lv_astore (lv' := [(4, .ref q9), (0, .ref sb), (1, .int w1), (2, .int w2), (3, .int w3)]) hx hb dL_board_23 hl (by decide) rfl (fun ls hl => ?_)
      refine lv_bipush (v := (-79)) hx hb dL_board_25 (by decide) ?_
      exact zo_i hx hb hr hlocks (zans_4 h0).symm (by rw [k_nS_1 hr0, k_nD_1 hr0]; exact ⟨hO, hW, hWD⟩) hS (Nat.le_of_ble_eq_true rfl) (Nat.le_of_ble_eq_true rfl) dL_board_27
  · obtain ⟨hO, hW, hWD⟩ := hG9
    exact zo_i hx hb hr hlocks (zans_0 h0).symm (by rw [k_nS_0 h0, k_nD_0 h0]; exact ⟨hO, hW, hWD⟩) hS (Nat.le_of_ble_eq_true rfl) (Nat.le_of_ble_eq_true rfl) dL_board_7
theorem zr_10 (σ : zS) (w1 w2 w3 w4 : Int32) : k_ref σ (nI 10) w1 w2 w3 w4 = 0 ∨ k_ref σ (nI 10) w1 w2 w3 w4 = 1 ∨ k_ref σ (nI 10) w1 w2 w3 w4 = 3 := by
  rw [show nI 10 = 10 from rfl, k_ref_10]
  suffices h : (fun r : Nat => r = 0 ∨ r = 1 ∨ r = 3) (r_X8_refusalOf_10 σ w1 w2 w3 w4) from h
  unfold r_X8_refusalOf_10 r_X8_ofLeave
  repeat' (first | refine zite (P := fun r : Nat => r = 0 ∨ r = 1 ∨ r = 3) ?_ ?_ | exact (by decide))
theorem zmL_leave : zmW yL_leave RL cL_leave 3 (some .int) [(0, 5, 6, 38), (0, 5, 10, 40)] 2 := ⟨m_906, m_0, m_907, rfl, by decide, by decide, by decide +kernel⟩
set_option maxRecDepth 100000 in
set_option maxHeartbeats 4000000 in
theorem ctL_leave (l : Launch) (hl0 : l.stackTraces = false) (D : va_G) (cy : Nat → ClassId) (rf : Nat → Nat) (sb ag : Nat) (ad : Nat → Nat → Nat) (σ : zS) (adD : Nat → Nat → Nat) (δ : zS) (hJ : zJ sb ad adD) (w1 : Int32) (hV : zV σ) (hc : zbd δ 200 512) (hfull : k_full δ = false) : Met l yL_leave (zww yL_leave cL_leave 3 (some .int) [(0, 5, 6, 38), (0, 5, 10, 40)]) (zrx 9 1 6) (va_Pc [.ref sb, .int w1] (zBN D cy rf (zSA D cy sb ag ad σ adD δ))) (zqM (some (.int (zans (k_ref σ (nI 10) w1 0 0 0) (k_pr σ (nI 10) w1 0 0 0)))) (zSA D cy sb ag ad (k_nS σ 10 w1 0 0 0) adD (k_nD σ δ 10 w1 0 0 0)) (zRA ad adD)) 1 6 (zRA ad adD) := by
  refine zmetW (by decide) rfl (Nat.le_of_ble_eq_true rfl) rfl (fun p e s m below meth c ls X hml hr hlocks hex hv hl => ?_)
  obtain ⟨hK, hE, hN, hO, hW, hWD⟩ := hv
  obtain ⟨hx, hb, -, -⟩ := id X
  have hl : lv_has ls 3 [(0, .ref sb), (1, .int w1)] := hl
  have hS : va_S (zRA ad adD) s.heap s.heap [] := va_S.rf
  refine lv_aload_n hx hb dL_leave_0 rfl (lv_at hl 0 rfl) ?_
  refine lv_iload_n hx hb dL_leave_1 rfl (lv_at hl 1 rfl) ?_
  refine zcallCV (As := [.int w1]) (rest := []) X hml hK hE ⟨hO, hW, hWD⟩ (ctX9_leave l hl0 D cy rf sb ag ad σ adD δ hJ w1 hV hc hfull) zmX9_leave (by decide) m_908 (zrecv hK hO rfl) ⟨(Nat.le_of_ble_eq_true rfl), (Nat.le_of_ble_eq_true rfl)⟩ ⟨(Nat.le_of_ble_eq_true rfl), (Nat.le_of_ble_eq_true rfl)⟩ rfl hl.1 rfl (Nat.le_of_ble_eq_true rfl) dL_leave_2 hS (fun _ h => h) (fun E ce q9 H locs hr0 hE0 hsz hfr hS hce hcv hcl => ?_) (fun h0 H locs hG9 hsz hfr hS => ?_)
  · replace hO := zO.kept hO (fun hq => hfr _ hq)
    replace hW := zW.kept hW (fun q hq => hfr q (hW.lt hq))
    replace hWD := zW.kept hWD (fun q hq => hfr q (hWD.lt hq))
    rcases (zr_10 σ w1 0 0 0) with h0 | h0 | h0
    · exact absurd h0 hr0
    · rw [hE0, h0] at hcl
      refine vx_catch (E := "java/lang/IndexOutOfBoundsException") (name := "java/lang/IndexOutOfBoundsException") X.2.2.1 [] (zte 0 5 6 38) [zte 0 5 10 40] (hex.trans rfl) (fun _ h => nomatch h) (by decide) (by decide) (X.2.2.2 _ m_812) (zcastX (X.2.2.2 _ m_15)) hce hcv hcl (?_ : W p l e _ s m _ below meth c _ _ _ _ _ (F0 m 6 ls [.ref q9]))
      refine lv_astore_n (lv' := [(2, .ref q9), (0, .ref sb), (1, .int w1)]) hx hb dL_leave_6 rfl hl (by decide) rfl (fun ls hl => ?_)
      refine lv_bipush (v := (-77)) hx hb dL_leave_7 (by decide) ?_
      exact zo_i hx hb hr hlocks (zans_1 h0).symm (by rw [k_nS_1 hr0, k_nD_1 hr0]; exact ⟨hO, hW, hWD⟩) hS (Nat.le_of_ble_eq_true rfl) (Nat.le_of_ble_eq_true rfl) dL_leave_9
    · rw [hE0, h0] at hcl
      refine vx_catch (E := "java/lang/UnsupportedOperationException") (name := "java/lang/UnsupportedOperationException") X.2.2.1 [zte 0 5 6 38] (zte 0 5 10 40) [] (hex.trans rfl) (List.forall_mem_cons.mpr ⟨Or.inr ⟨by decide, "java/lang/IndexOutOfBoundsException", X.2.2.2 _ m_812, hN 3 1 (by decide) (by decide) (by decide) (by decide) (by decide)⟩, (fun _ h => nomatch h)⟩) (by decide) (by decide) (X.2.2.2 _ m_856) (zcastX (X.2.2.2 _ m_17)) hce hcv hcl (?_ : W p l e _ s m _ below meth c _ _ _ _ _ (F0 m 10 ls [.ref q9]))
      refine lv_astore_n (lv' := [(2, .ref q9), (0, .ref sb), (1, .int w1)]) hx hb dL_leave_10 rfl hl (by decide) rfl (fun ls hl => ?_)
      refine lv_bipush (v := (-76)) hx hb dL_leave_11 (by decide) ?_
      exact zo_i hx hb hr hlocks (zans_3 h0).symm (by rw [k_nS_1 hr0, k_nD_1 hr0]; exact ⟨hO, hW, hWD⟩) hS (Nat.le_of_ble_eq_true rfl) (Nat.le_of_ble_eq_true rfl) dL_leave_13
  · obtain ⟨hO, hW, hWD⟩ := hG9
    exact zo_i hx hb hr hlocks (zans_0 h0).symm (by rw [k_nS_0 h0, k_nD_0 h0]; exact ⟨hO, hW, hWD⟩) hS (Nat.le_of_ble_eq_true rfl) (Nat.le_of_ble_eq_true rfl) dL_leave_5
theorem zr_11 (σ : zS) (w1 w2 w3 w4 : Int32) : k_ref σ (nI 11) w1 w2 w3 w4 = 0 ∨ k_ref σ (nI 11) w1 w2 w3 w4 = 1 ∨ k_ref σ (nI 11) w1 w2 w3 w4 = 3 := by
  rw [show nI 11 = 11 from rfl, k_ref_11]
  suffices h : (fun r : Nat => r = 0 ∨ r = 1 ∨ r = 3) (r_X8_refusalOf_11 σ w1 w2 w3 w4) from h
  unfold r_X8_refusalOf_11 r_X8_ofJump r_X8_ofLeave
  repeat' (first | refine zite (P := fun r : Nat => r = 0 ∨ r = 1 ∨ r = 3) ?_ ?_ | exact (by decide))
theorem zmL_jump : zmW yL_jump RL cL_jump 4 (some .int) [(0, 6, 7, 38), (0, 6, 11, 40)] 3 := ⟨m_899, m_0, m_900, rfl, by decide, by decide, by decide +kernel⟩
set_option maxRecDepth 100000 in
set_option maxHeartbeats 4000000 in
theorem ctL_jump (l : Launch) (hl0 : l.stackTraces = false) (D : va_G) (cy : Nat → ClassId) (rf : Nat → Nat) (sb ag : Nat) (ad : Nat → Nat → Nat) (σ : zS) (adD : Nat → Nat → Nat) (δ : zS) (hJ : zJ sb ad adD) (w1 : Int32) (w2 : Int32) (hV : zV σ) (hc : zbd δ 200 512) (hfull : k_full δ = false) : Met l yL_jump (zww yL_jump cL_jump 4 (some .int) [(0, 6, 7, 38), (0, 6, 11, 40)]) (zrx 9 1 6) (va_Pc [.ref sb, .int w1, .int w2] (zBN D cy rf (zSA D cy sb ag ad σ adD δ))) (zqM (some (.int (zans (k_ref σ (nI 11) w1 w2 0 0) (k_pr σ (nI 11) w1 w2 0 0)))) (zSA D cy sb ag ad (k_nS σ 11 w1 w2 0 0) adD (k_nD σ δ 11 w1 w2 0 0)) (zRA ad adD)) 1 6 (zRA ad adD) := by
  refine zmetW (by decide) rfl (Nat.le_of_ble_eq_true rfl) rfl (fun p e s m below meth c ls X hml hr hlocks hex hv hl => ?_)
  obtain ⟨hK, hE, hN, hO, hW, hWD⟩ := hv
  obtain ⟨hx, hb, -, -⟩ := id X
  have hl : lv_has ls 4 [(0, .ref sb), (1, .int w1), (2, .int w2)] := hl
  have hS : va_S (zRA ad adD) s.heap s.heap [] := va_S.rf
  refine lv_aload_n hx hb dL_jump_0 rfl (lv_at hl 0 rfl) ?_
  refine lv_iload_n hx hb dL_jump_1 rfl (lv_at hl 1 rfl) ?_
  refine lv_iload_n hx hb dL_jump_2 rfl (lv_at hl 2 rfl) ?_
  refine zcallCV (As := [.int w1, .int w2]) (rest := []) X hml hK hE ⟨hO, hW, hWD⟩ (ctX9_jump l hl0 D cy rf sb ag ad σ adD δ hJ w1 w2 hV hc hfull) zmX9_jump (by decide) m_901 (zrecv hK hO rfl) ⟨(Nat.le_of_ble_eq_true rfl), (Nat.le_of_ble_eq_true rfl)⟩ ⟨(Nat.le_of_ble_eq_true rfl), (Nat.le_of_ble_eq_true rfl)⟩ rfl hl.1 rfl (Nat.le_of_ble_eq_true rfl) dL_jump_3 hS (fun _ h => h) (fun E ce q9 H locs hr0 hE0 hsz hfr hS hce hcv hcl => ?_) (fun h0 H locs hG9 hsz hfr hS => ?_)
  · replace hO := zO.kept hO (fun hq => hfr _ hq)
    replace hW := zW.kept hW (fun q hq => hfr q (hW.lt hq))
    replace hWD := zW.kept hWD (fun q hq => hfr q (hWD.lt hq))
    rcases (zr_11 σ w1 w2 0 0) with h0 | h0 | h0
    · exact absurd h0 hr0
    · rw [hE0, h0] at hcl
      refine vx_catch (E := "java/lang/IndexOutOfBoundsException") (name := "java/lang/IndexOutOfBoundsException") X.2.2.1 [] (zte 0 6 7 38) [zte 0 6 11 40] (hex.trans rfl) (fun _ h => nomatch h) (by decide) (by decide) (X.2.2.2 _ m_812) (zcastX (X.2.2.2 _ m_15)) hce hcv hcl (?_ : W p l e _ s m _ below meth c _ _ _ _ _ (F0 m 7 ls [.ref q9]))
      refine lv_astore_n (lv' := [(3, .ref q9), (0, .ref sb), (1, .int w1), (2, .int w2)]) hx hb dL_jump_7 rfl hl (by decide) rfl (fun ls hl => ?_)
      refine lv_bipush (v := (-77)) hx hb dL_jump_8 (by decide) ?_
      exact zo_i hx hb hr hlocks (zans_1 h0).symm (by rw [k_nS_1 hr0, k_nD_1 hr0]; exact ⟨hO, hW, hWD⟩) hS (Nat.le_of_ble_eq_true rfl) (Nat.le_of_ble_eq_true rfl) dL_jump_10
    · rw [hE0, h0] at hcl
      refine vx_catch (E := "java/lang/UnsupportedOperationException") (name := "java/lang/UnsupportedOperationException") X.2.2.1 [zte 0 6 7 38] (zte 0 6 11 40) [] (hex.trans rfl) (List.forall_mem_cons.mpr ⟨Or.inr ⟨by decide, "java/lang/IndexOutOfBoundsException", X.2.2.2 _ m_812, hN 3 1 (by decide) (by decide) (by decide) (by decide) (by decide)⟩, (fun _ h => nomatch h)⟩) (by decide) (by decide) (X.2.2.2 _ m_856) (zcastX (X.2.2.2 _ m_17)) hce hcv hcl (?_ : W p l e _ s m _ below meth c _ _ _ _ _ (F0 m 11 ls [.ref q9]))
      refine lv_astore_n (lv' := [(3, .ref q9), (0, .ref sb), (1, .int w1), (2, .int w2)]) hx hb dL_jump_11 rfl hl (by decide) rfl (fun ls hl => ?_)
      refine lv_bipush (v := (-76)) hx hb dL_jump_12 (by decide) ?_
      exact zo_i hx hb hr hlocks (zans_3 h0).symm (by rw [k_nS_1 hr0, k_nD_1 hr0]; exact ⟨hO, hW, hWD⟩) hS (Nat.le_of_ble_eq_true rfl) (Nat.le_of_ble_eq_true rfl) dL_jump_14
  · obtain ⟨hO, hW, hWD⟩ := hG9
    exact zo_i hx hb hr hlocks (zans_0 h0).symm (by rw [k_nS_0 h0, k_nD_0 h0]; exact ⟨hO, hW, hWD⟩) hS (Nat.le_of_ble_eq_true rfl) (Nat.le_of_ble_eq_true rfl) dL_jump_6
theorem zr_12 (σ : zS) (w1 w2 w3 w4 : Int32) : k_ref σ (nI 12) w1 w2 w3 w4 = 0 ∨ k_ref σ (nI 12) w1 w2 w3 w4 = 1 ∨ k_ref σ (nI 12) w1 w2 w3 w4 = 4 := by
  rw [show nI 12 = 12 from rfl, k_ref_12]
  suffices h : (fun r : Nat => r = 0 ∨ r = 1 ∨ r = 4) (r_X8_refusalOf_12 σ w1 w2 w3 w4) from h
  unfold r_X8_refusalOf_12 r_X8_ofFind
  repeat' (first | refine zite (P := fun r : Nat => r = 0 ∨ r = 1 ∨ r = 4) ?_ ?_ | exact (by decide))
theorem zmL_find : zmW yL_find RL cL_find 3 (some .int) [(0, 5, 6, 38), (0, 5, 10, 22)] 2 := ⟨m_927, m_0, m_928, rfl, by decide, by decide, by decide +kernel⟩
set_option maxRecDepth 100000 in
set_option maxHeartbeats 4000000 in
theorem ctL_find (l : Launch) (hl0 : l.stackTraces = false) (D : va_G) (cy : Nat → ClassId) (rf : Nat → Nat) (sb ag : Nat) (ad : Nat → Nat → Nat) (σ : zS) (adD : Nat → Nat → Nat) (δ : zS) (hJ : zJ sb ad adD) (w1 : Int32) (hV : zV σ) (hc : zbd δ 200 512) (hfull : k_full δ = false) : Met l yL_find (zww yL_find cL_find 3 (some .int) [(0, 5, 6, 38), (0, 5, 10, 22)]) (zrx 9 1 6) (va_Pc [.ref sb, .int w1] (zBN D cy rf (zSA D cy sb ag ad σ adD δ))) (zqM (some (.int (zans (k_ref σ (nI 12) w1 0 0 0) (k_pr σ (nI 12) w1 0 0 0)))) (zSA D cy sb ag ad (k_nS σ 12 w1 0 0 0) adD (k_nD σ δ 12 w1 0 0 0)) (zRA ad adD)) 1 6 (zRA ad adD) := by
  refine zmetW (by decide) rfl (Nat.le_of_ble_eq_true rfl) rfl (fun p e s m below meth c ls X hml hr hlocks hex hv hl => ?_)
  obtain ⟨hK, hE, hN, hO, hW, hWD⟩ := hv
  obtain ⟨hx, hb, -, -⟩ := id X
  have hl : lv_has ls 3 [(0, .ref sb), (1, .int w1)] := hl
  have hS : va_S (zRA ad adD) s.heap s.heap [] := va_S.rf
  refine lv_aload_n hx hb dL_find_0 rfl (lv_at hl 0 rfl) ?_
  refine lv_iload_n hx hb dL_find_1 rfl (lv_at hl 1 rfl) ?_
  refine zcallCV (As := [.int w1]) (rest := []) X hml hK hE ⟨hO, hW, hWD⟩ (ctX9_find l hl0 D cy rf sb ag ad σ adD δ hJ w1 hV hc hfull) zmX9_find (by decide) m_929 (zrecv hK hO rfl) ⟨(Nat.le_of_ble_eq_true rfl), (Nat.le_of_ble_eq_true rfl)⟩ ⟨(Nat.le_of_ble_eq_true rfl), (Nat.le_of_ble_eq_true rfl)⟩ rfl hl.1 rfl (Nat.le_of_ble_eq_true rfl) dL_find_2 hS (fun _ h => h) (fun E ce q9 H locs hr0 hE0 hsz hfr hS hce hcv hcl => ?_) (fun h0 H locs hG9 hsz hfr hS => ?_)
  · replace hO := zO.kept hO (fun hq => hfr _ hq)
    replace hW := zW.kept hW (fun q hq => hfr q (hW.lt hq))
    replace hWD := zW.kept hWD (fun q hq => hfr q (hWD.lt hq))
    rcases (zr_12 σ w1 0 0 0) with h0 | h0 | h0
    · exact absurd h0 hr0
    · rw [hE0, h0] at hcl
      refine vx_catch (E := "java/lang/IndexOutOfBoundsException") (name := "java/lang/IndexOutOfBoundsException") X.2.2.1 [] (zte 0 5 6 38) [zte 0 5 10 22] (hex.trans rfl) (fun _ h => nomatch h) (by decide) (by decide) (X.2.2.2 _ m_812) (zcastX (X.2.2.2 _ m_15)) hce hcv hcl (?_ : W p l e _ s m _ below meth c _ _ _ _ _ (F0 m 6 ls [.ref q9]))
      refine lv_astore_n (lv' := [(2, .ref q9), (0, .ref sb), (1, .int w1)]) hx hb dL_find_6 rfl hl (by decide) rfl (fun ls hl => ?_)
      refine lv_bipush (v := (-77)) hx hb dL_find_7 (by decide) ?_
      exact zo_i hx hb hr hlocks (zans_1 h0).symm (by rw [k_nS_1 hr0, k_nD_1 hr0]; exact ⟨hO, hW, hWD⟩) hS (Nat.le_of_ble_eq_true rfl) (Nat.le_of_ble_eq_true rfl) dL_find_9
    · rw [hE0, h0] at hcl
      refine vx_catch (E := "java/lang/IllegalStateException") (name := "java/lang/IllegalStateException") X.2.2.1 [zte 0 5 6 38] (zte 0 5 10 22) [] (hex.trans rfl) (List.forall_mem_cons.mpr ⟨Or.inr ⟨by decide, "java/lang/IndexOutOfBoundsException", X.2.2.2 _ m_812, hN 4 1 (by decide) (by decide) (by decide) (by decide) (by decide)⟩, (fun _ h => nomatch h)⟩) (by decide) (by decide) (X.2.2.2 _ m_648) (zcastX (X.2.2.2 _ m_18)) hce hcv hcl (?_ : W p l e _ s m _ below meth c _ _ _ _ _ (F0 m 10 ls [.ref q9]))
      refine lv_astore_n (lv' := [(2, .ref q9), (0, .ref sb), (1, .int w1)]) hx hb dL_find_10 rfl hl (by decide) rfl (fun ls hl => ?_)
      refine lv_bipush (v := (-79)) hx hb dL_find_11 (by decide) ?_
      exact zo_i hx hb hr hlocks (zans_4 h0).symm (by rw [k_nS_1 hr0, k_nD_1 hr0]; exact ⟨hO, hW, hWD⟩) hS (Nat.le_of_ble_eq_true rfl) (Nat.le_of_ble_eq_true rfl) dL_find_13
  · obtain ⟨hO, hW, hWD⟩ := hG9
    exact zo_i hx hb hr hlocks (zans_0 h0).symm (by rw [k_nS_0 h0, k_nD_0 h0]; exact ⟨hO, hW, hWD⟩) hS (Nat.le_of_ble_eq_true rfl) (Nat.le_of_ble_eq_true rfl) dL_find_5
theorem zr_13 (σ : zS) (w1 w2 w3 w4 : Int32) : k_ref σ (nI 13) w1 w2 w3 w4 = 0 ∨ k_ref σ (nI 13) w1 w2 w3 w4 = 1 ∨ k_ref σ (nI 13) w1 w2 w3 w4 = 3 := by
  rw [show nI 13 = 13 from rfl, k_ref_13]
  suffices h : (fun r : Nat => r = 0 ∨ r = 1 ∨ r = 3) (r_X8_refusalOf_13 σ w1 w2 w3 w4) from h
  unfold r_X8_refusalOf_13 r_X8_ofWiden
  repeat' (first | refine zite (P := fun r : Nat => r = 0 ∨ r = 1 ∨ r = 3) ?_ ?_ | exact (by decide))
theorem zmL_widen : zmW yL_widen RL cL_widen 3 (some .int) [(0, 5, 6, 38), (0, 5, 10, 40)] 2 := ⟨m_947, m_0, m_948, rfl, by decide, by decide, by decide +kernel⟩
set_option maxRecDepth 100000 in
set_option maxHeartbeats 4000000 in
theorem ctL_widen (l : Launch) (hl0 : l.stackTraces = false) (D : va_G) (cy : Nat → ClassId) (rf : Nat → Nat) (sb ag : Nat) (ad : Nat → Nat → Nat) (σ : zS) (adD : Nat → Nat → Nat) (δ : zS) (hJ : zJ sb ad adD) (w1 : Int32) (hV : zV σ) (hc : zbd δ 200 512) (hfull : k_full δ = false) : Met l yL_widen (zww yL_widen cL_widen 3 (some .int) [(0, 5, 6, 38), (0, 5, 10, 40)]) (zrx 9 1 6) (va_Pc [.ref sb, .int w1] (zBN D cy rf (zSA D cy sb ag ad σ adD δ))) (zqM (some (.int (zans (k_ref σ (nI 13) w1 0 0 0) (k_pr σ (nI 13) w1 0 0 0)))) (zSA D cy sb ag ad (k_nS σ 13 w1 0 0 0) adD (k_nD σ δ 13 w1 0 0 0)) (zRA ad adD)) 1 6 (zRA ad adD) := by
  refine zmetW (by decide) rfl (Nat.le_of_ble_eq_true rfl) rfl (fun p e s m below meth c ls X hml hr hlocks hex hv hl => ?_)
  obtain ⟨hK, hE, hN, hO, hW, hWD⟩ := hv
  obtain ⟨hx, hb, -, -⟩ := id X
  have hl : lv_has ls 3 [(0, .ref sb), (1, .int w1)] := hl
  have hS : va_S (zRA ad adD) s.heap s.heap [] := va_S.rf
  refine lv_aload_n hx hb dL_widen_0 rfl (lv_at hl 0 rfl) ?_
  refine lv_iload_n hx hb dL_widen_1 rfl (lv_at hl 1 rfl) ?_
  refine zcallCV (As := [.int w1]) (rest := []) X hml hK hE ⟨hO, hW, hWD⟩ (ctX9_widen l hl0 D cy rf sb ag ad σ adD δ hJ w1 hV hc hfull) zmX9_widen (by decide) m_949 (zrecv hK hO rfl) ⟨(Nat.le_of_ble_eq_true rfl), (Nat.le_of_ble_eq_true rfl)⟩ ⟨(Nat.le_of_ble_eq_true rfl), (Nat.le_of_ble_eq_true rfl)⟩ rfl hl.1 rfl (Nat.le_of_ble_eq_true rfl) dL_widen_2 hS (fun _ h => h) (fun E ce q9 H locs hr0 hE0 hsz hfr hS hce hcv hcl => ?_) (fun h0 H locs hG9 hsz hfr hS => ?_)
  · replace hO := zO.kept hO (fun hq => hfr _ hq)
    replace hW := zW.kept hW (fun q hq => hfr q (hW.lt hq))
    replace hWD := zW.kept hWD (fun q hq => hfr q (hWD.lt hq))
    rcases (zr_13 σ w1 0 0 0) with h0 | h0 | h0
    · exact absurd h0 hr0
    · rw [hE0, h0] at hcl
      refine vx_catch (E := "java/lang/IndexOutOfBoundsException") (name := "java/lang/IndexOutOfBoundsException") X.2.2.1 [] (zte 0 5 6 38) [zte 0 5 10 40] (hex.trans rfl) (fun _ h => nomatch h) (by decide) (by decide) (X.2.2.2 _ m_812) (zcastX (X.2.2.2 _ m_15)) hce hcv hcl (?_ : W p l e _ s m _ below meth c _ _ _ _ _ (F0 m 6 ls [.ref q9]))
      refine lv_astore_n (lv' := [(2, .ref q9), (0, .ref sb), (1, .int w1)]) hx hb dL_widen_6 rfl hl (by decide) rfl (fun ls hl => ?_)
      refine lv_bipush (v := (-77)) hx hb dL_widen_7 (by decide) ?_
      exact zo_i hx hb hr hlocks (zans_1 h0).symm (by rw [k_nS_1 hr0, k_nD_1 hr0]; exact ⟨hO, hW, hWD⟩) hS (Nat.le_of_ble_eq_true rfl) (Nat.le_of_ble_eq_true rfl) dL_widen_9
    · rw [hE0, h0] at hcl
      refine vx_catch (E := "java/lang/UnsupportedOperationException") (name := "java/lang/UnsupportedOperationException") X.2.2.1 [zte 0 5 6 38] (zte 0 5 10 40) [] (hex.trans rfl) (List.forall_mem_cons.mpr ⟨Or.inr ⟨by decide, "java/lang/IndexOutOfBoundsException", X.2.2.2 _ m_812, hN 3 1 (by decide) (by decide) (by decide) (by decide) (by decide)⟩, (fun _ h => nomatch h)⟩) (by decide) (by decide) (X.2.2.2 _ m_856) (zcastX (X.2.2.2 _ m_17)) hce hcv hcl (?_ : W p l e _ s m _ below meth c _ _ _ _ _ (F0 m 10 ls [.ref q9]))
      refine lv_astore_n (lv' := [(2, .ref q9), (0, .ref sb), (1, .int w1)]) hx hb dL_widen_10 rfl hl (by decide) rfl (fun ls hl => ?_)
      refine lv_bipush (v := (-76)) hx hb dL_widen_11 (by decide) ?_
      exact zo_i hx hb hr hlocks (zans_3 h0).symm (by rw [k_nS_1 hr0, k_nD_1 hr0]; exact ⟨hO, hW, hWD⟩) hS (Nat.le_of_ble_eq_true rfl) (Nat.le_of_ble_eq_true rfl) dL_widen_13
  · obtain ⟨hO, hW, hWD⟩ := hG9
    exact zo_i hx hb hr hlocks (zans_0 h0).symm (by rw [k_nS_0 h0, k_nD_0 h0]; exact ⟨hO, hW, hWD⟩) hS (Nat.le_of_ble_eq_true rfl) (Nat.le_of_ble_eq_true rfl) dL_widen_5
theorem zr_14 (σ : zS) (w1 w2 w3 w4 : Int32) : k_ref σ (nI 14) w1 w2 w3 w4 = 0 ∨ k_ref σ (nI 14) w1 w2 w3 w4 = 1 ∨ k_ref σ (nI 14) w1 w2 w3 w4 = 2 ∨ k_ref σ (nI 14) w1 w2 w3 w4 = 3 := by
  rw [show nI 14 = 14 from rfl, k_ref_14]
  suffices h : (fun r : Nat => r = 0 ∨ r = 1 ∨ r = 2 ∨ r = 3) (r_X8_refusalOf_14 σ w1 w2 w3 w4) from h
  unfold r_X8_refusalOf_14 r_X8_ofTellCause
  repeat' (first | refine zite (P := fun r : Nat => r = 0 ∨ r = 1 ∨ r = 2 ∨ r = 3) ?_ ?_ | exact (by decide))
theorem zmL_tellCause : zmW yL_tellCause RL cL_tellCause 4 (some .int) [(0, 6, 7, 38), (0, 6, 11, 20), (0, 6, 15, 40)] 3 := ⟨m_995, m_0, m_996, rfl, by decide, by decide, by decide +kernel⟩
set_option maxRecDepth 100000 in
set_option maxHeartbeats 4000000 in
theorem ctL_tellCause (l : Launch) (hl0 : l.stackTraces = false) (D : va_G) (cy : Nat → ClassId) (rf : Nat → Nat) (sb ag : Nat) (ad : Nat → Nat → Nat) (σ : zS) (adD : Nat → Nat → Nat) (δ : zS) (hJ : zJ sb ad adD) (w1 : Int32) (w2 : Int32) (hV : zV σ) (hc : zbd δ 200 512) (hfull : k_full δ = false) : Met l yL_tellCause (zww yL_tellCause cL_tellCause 4 (some .int) [(0, 6, 7, 38), (0, 6, 11, 20), (0, 6, 15, 40)]) (zrx 9 1 6) (va_Pc [.ref sb, .int w1, .int w2] (zBN D cy rf (zSA D cy sb ag ad σ adD δ))) (zqM (some (.int (zans (k_ref σ (nI 14) w1 w2 0 0) (((k_pr σ (nI 14) w1 w2 0 0).toUInt32 % 65536).toInt32)))) (zSA D cy sb ag ad (k_nS σ 14 w1 w2 0 0) adD (k_nD σ δ 14 w1 w2 0 0)) (zRA ad adD)) 1 6 (zRA ad adD) := by
  refine zmetW (by decide) rfl (Nat.le_of_ble_eq_true rfl) rfl (fun p e s m below meth c ls X hml hr hlocks hex hv hl => ?_)
  obtain ⟨hK, hE, hN, hO, hW, hWD⟩ := hv
  obtain ⟨hx, hb, -, -⟩ := id X
  have hl : lv_has ls 4 [(0, .ref sb), (1, .int w1), (2, .int w2)] := hl
  have hS : va_S (zRA ad adD) s.heap s.heap [] := va_S.rf
  refine lv_aload_n hx hb dL_tellCause_0 rfl (lv_at hl 0 rfl) ?_
  refine lv_iload_n hx hb dL_tellCause_1 rfl (lv_at hl 1 rfl) ?_
  refine lv_iload_n hx hb dL_tellCause_2 rfl (lv_at hl 2 rfl) ?_
  refine zcallCV (As := [.int w1, .int w2]) (rest := []) X hml hK hE ⟨hO, hW, hWD⟩ (ctX9_tellCause l hl0 D cy rf sb ag ad σ adD δ hJ w1 w2 hV hc hfull) zmX9_tellCause (by decide) m_997 (zrecv hK hO rfl) ⟨(Nat.le_of_ble_eq_true rfl), (Nat.le_of_ble_eq_true rfl)⟩ ⟨(Nat.le_of_ble_eq_true rfl), (Nat.le_of_ble_eq_true rfl)⟩ rfl hl.1 rfl (Nat.le_of_ble_eq_true rfl) dL_tellCause_3 hS (fun _ h => h) (fun E ce q9 H locs hr0 hE0 hsz hfr hS hce hcv hcl => ?_) (fun h0 H locs hG9 hsz hfr hS => ?_)
  · replace hO := zO.kept hO (fun hq => hfr _ hq)
    replace hW := zW.kept hW (fun q hq => hfr q (hW.lt hq))
    replace hWD := zW.kept hWD (fun q hq => hfr q (hWD.lt hq))
    rcases (zr_14 σ w1 w2 0 0) with h0 | h0 | h0 | h0
    · exact absurd h0 hr0
    · rw [hE0, h0] at hcl
      refine vx_catch (E := "java/lang/IndexOutOfBoundsException") (name := "java/lang/IndexOutOfBoundsException") X.2.2.1 [] (zte 0 6 7 38) [zte 0 6 11 20, zte 0 6 15 40] (hex.trans rfl) (fun _ h => nomatch h) (by decide) (by decide) (X.2.2.2 _ m_812) (zcastX (X.2.2.2 _ m_15)) hce hcv hcl (?_ : W p l e _ s m _ below meth c _ _ _ _ _ (F0 m 7 ls [.ref q9]))
      refine lv_astore_n (lv' := [(3, .ref q9), (0, .ref sb), (1, .int w1), (2, .int w2)]) hx hb dL_tellCause_7 rfl hl (by decide) rfl (fun ls hl => ?_)
      refine lv_bipush (v := (-77)) hx hb dL_tellCause_8 (by decide) ?_
      exact zo_i hx hb hr hlocks (zans_1 h0).symm (by rw [k_nS_1 hr0, k_nD_1 hr0]; exact ⟨hO, hW, hWD⟩) hS (Nat.le_of_ble_eq_true rfl) (Nat.le_of_ble_eq_true rfl) dL_tellCause_10
    · rw [hE0, h0] at hcl
      refine vx_catch (E := "java/lang/IllegalArgumentException") (name := "java/lang/IllegalArgumentException") X.2.2.1 [zte 0 6 7 38] (zte 0 6 11 20) [zte 0 6 15 40] (hex.trans rfl) (List.forall_mem_cons.mpr ⟨Or.inr ⟨by decide, "java/lang/IndexOutOfBoundsException", X.2.2.2 _ m_812, hN 2 1 (by decide) (by decide) (by decide) (by decide) (by decide)⟩, (fun _ h => nomatch h)⟩) (by decide) (by decide) (X.2.2.2 _ m_647) (zcastX (X.2.2.2 _ m_16)) hce hcv hcl (?_ : W p l e _ s m _ below meth c _ _ _ _ _ (F0 m 11 ls [.ref q9]))
      refine lv_astore_n (lv' := [(3, .ref q9), (0, .ref sb), (1, .int w1), (2, .int w2)]) hx hb dL_tellCause_11 rfl hl (by decide) rfl (fun ls hl => ?_)
      refine lv_bipush (v := (-78)) hx hb dL_tellCause_12 (by decide) ?_
      exact zo_i hx hb hr hlocks (zans_2 h0).symm (by rw [k_nS_1 hr0, k_nD_1 hr0]; exact ⟨hO, hW, hWD⟩) hS (Nat.le_of_ble_eq_true rfl) (Nat.le_of_ble_eq_true rfl) dL_tellCause_14
    · rw [hE0, h0] at hcl
      refine vx_catch (E := "java/lang/UnsupportedOperationException") (name := "java/lang/UnsupportedOperationException") X.2.2.1 [zte 0 6 7 38, zte 0 6 11 20] (zte 0 6 15 40) [] (hex.trans rfl) (List.forall_mem_cons.mpr ⟨Or.inr ⟨by decide, "java/lang/IndexOutOfBoundsException", X.2.2.2 _ m_812, hN 3 1 (by decide) (by decide) (by decide) (by decide) (by decide)⟩, (List.forall_mem_cons.mpr ⟨Or.inr ⟨by decide, "java/lang/IllegalArgumentException", X.2.2.2 _ m_647, hN 3 2 (by decide) (by decide) (by decide) (by decide) (by decide)⟩, (fun _ h => nomatch h)⟩)⟩) (by decide) (by decide) (X.2.2.2 _ m_856) (zcastX (X.2.2.2 _ m_17)) hce hcv hcl (?_ : W p l e _ s m _ below meth c _ _ _ _ _ (F0 m 15 ls [.ref q9]))
      refine lv_astore_n (lv' := [(3, .ref q9), (0, .ref sb), (1, .int w1), (2, .int w2)]) hx hb dL_tellCause_15 rfl hl (by decide) rfl (fun ls hl => ?_)
      refine lv_bipush (v := (-76)) hx hb dL_tellCause_16 (by decide) ?_
      exact zo_i hx hb hr hlocks (zans_3 h0).symm (by rw [k_nS_1 hr0, k_nD_1 hr0]; exact ⟨hO, hW, hWD⟩) hS (Nat.le_of_ble_eq_true rfl) (Nat.le_of_ble_eq_true rfl) dL_tellCause_18
  · obtain ⟨hO, hW, hWD⟩ := hG9
    exact zo_i hx hb hr hlocks (zans_0 h0).symm (by rw [k_nS_0 h0, k_nD_0 h0]; exact ⟨hO, hW, hWD⟩) hS (Nat.le_of_ble_eq_true rfl) (Nat.le_of_ble_eq_true rfl) dL_tellCause_6
theorem zr_15 (σ : zS) (w1 w2 w3 w4 : Int32) : k_ref σ (nI 15) w1 w2 w3 w4 = 0 ∨ k_ref σ (nI 15) w1 w2 w3 w4 = 1 := by
  rw [show nI 15 = 15 from rfl, k_ref_15]
  suffices h : (fun r : Nat => r = 0 ∨ r = 1) (r_X8_refusalOf_15 σ w1 w2 w3 w4) from h
  unfold r_X8_refusalOf_15
  repeat' (first | refine zite (P := fun r : Nat => r = 0 ∨ r = 1) ?_ ?_ | exact (by decide))
theorem zmL_close : zmW yL_close RL cL_close 3 (some .int) [(0, 13, 14, 38)] 2 := ⟨m_1002, m_0, m_1003, rfl, by decide, by decide, by decide +kernel⟩
set_option maxRecDepth 100000 in
set_option maxHeartbeats 4000000 in
theorem ctL_close (l : Launch) (hl0 : l.stackTraces = false) (D : va_G) (cy : Nat → ClassId) (rf : Nat → Nat) (sb ag : Nat) (ad : Nat → Nat → Nat) (σ : zS) (adD : Nat → Nat → Nat) (δ : zS) (hJ : zJ sb ad adD) (w1 : Int32) (hV : zV σ) (hc : zbd δ 200 512) (hfull : k_full δ = false) : Met l yL_close (zww yL_close cL_close 3 (some .int) [(0, 13, 14, 38)]) (zrx 9 1 6) (va_Pc [.ref sb, .int w1] (zBN D cy rf (zSA D cy sb ag ad σ adD δ))) (zqM (some (.int (zans (k_ref σ (nI 15) w1 0 0 0) (bI (decide (k_pr σ (nI 15) w1 0 0 0 = 1)))))) (zSA D cy sb ag ad (k_nS σ 15 w1 0 0 0) adD (k_nD σ δ 15 w1 0 0 0)) (zRA ad adD)) 1 6 (zRA ad adD) := by
  refine zmetW (by decide) rfl (Nat.le_of_ble_eq_true rfl) rfl (fun p e s m below meth c ls X hml hr hlocks hex hv hl => ?_)
  obtain ⟨hK, hE, hN, hO, hW, hWD⟩ := hv
  obtain ⟨hx, hb, -, -⟩ := id X
  have hl : lv_has ls 3 [(0, .ref sb), (1, .int w1)] := hl
  have hS : va_S (zRA ad adD) s.heap s.heap [] := va_S.rf
  refine lv_aload_n hx hb dL_close_0 rfl (lv_at hl 0 rfl) ?_
  refine lv_iload_n hx hb dL_close_1 rfl (lv_at hl 1 rfl) ?_
  refine zcallCV (As := [.int w1]) (rest := []) X hml hK hE ⟨hO, hW, hWD⟩ (ctX9_close l hl0 D cy rf sb ag ad σ adD δ hJ w1 hV hc hfull) zmX9_close (by decide) m_1004 (zrecv hK hO rfl) ⟨(Nat.le_of_ble_eq_true rfl), (Nat.le_of_ble_eq_true rfl)⟩ ⟨(Nat.le_of_ble_eq_true rfl), (Nat.le_of_ble_eq_true rfl)⟩ rfl hl.1 rfl (Nat.le_of_ble_eq_true rfl) dL_close_2 hS (fun _ h => h) (fun E ce q9 H locs hr0 hE0 hsz hfr hS hce hcv hcl => ?_) (fun h0 H locs hG9 hsz hfr hS => ?_)
  · replace hO := zO.kept hO (fun hq => hfr _ hq)
    replace hW := zW.kept hW (fun q hq => hfr q (hW.lt hq))
    replace hWD := zW.kept hWD (fun q hq => hfr q (hWD.lt hq))
    rcases (zr_15 σ w1 0 0 0) with h0 | h0
    · exact absurd h0 hr0
    · rw [hE0, h0] at hcl
      refine vx_catch (E := "java/lang/IndexOutOfBoundsException") (name := "java/lang/IndexOutOfBoundsException") X.2.2.1 [] (zte 0 13 14 38) [] (hex.trans rfl) (fun _ h => nomatch h) (by decide) (by decide) (X.2.2.2 _ m_812) (zcastX (X.2.2.2 _ m_15)) hce hcv hcl (?_ : W p l e _ s m _ below meth c _ _ _ _ _ (F0 m 14 ls [.ref q9]))
      refine lv_astore_n (lv' := [(2, .ref q9), (0, .ref sb), (1, .int w1)]) hx hb dL_close_14 rfl hl (by decide) rfl (fun ls hl => ?_)
      refine lv_bipush (v := (-77)) hx hb dL_close_15 (by decide) ?_
      exact zo_i hx hb hr hlocks (zans_1 h0).symm (by rw [k_nS_1 hr0, k_nD_1 hr0]; exact ⟨hO, hW, hWD⟩) hS (Nat.le_of_ble_eq_true rfl) (Nat.le_of_ble_eq_true rfl) dL_close_17
  · obtain ⟨hO, hW, hWD⟩ := hG9
    refine zb_eq (tgt := 12) hx hb dL_close_5 (by decide) (fun b1 => ?_) (fun b1 => ?_)
    · refine lv_iconst (v := 0) hx hb dL_close_12 (by decide) ?_
      exact zo_i hx hb hr hlocks (zans_b0 h0 b1).symm (by rw [k_nS_0 h0, k_nD_0 h0]; exact ⟨hO, hW, hWD⟩) hS (Nat.le_of_ble_eq_true rfl) (Nat.le_of_ble_eq_true rfl) dL_close_13
    · refine lv_iconst (v := 1) hx hb dL_close_8 (by decide) ?_
      refine lv_goto (tgt := 13) hx hb dL_close_9 (by decide) ?_
      exact zo_i hx hb hr hlocks (zans_b1 h0 b1).symm (by rw [k_nS_0 h0, k_nD_0 h0]; exact ⟨hO, hW, hWD⟩) hS (Nat.le_of_ble_eq_true rfl) (Nat.le_of_ble_eq_true rfl) dL_close_13
theorem zr_16 (σ : zS) (w1 w2 w3 w4 : Int32) : k_ref σ (nI 16) w1 w2 w3 w4 = 0 ∨ k_ref σ (nI 16) w1 w2 w3 w4 = 1 ∨ k_ref σ (nI 16) w1 w2 w3 w4 = 3 ∨ k_ref σ (nI 16) w1 w2 w3 w4 = 2 := by
  rw [show nI 16 = 16 from rfl, k_ref_16]
  suffices h : (fun r : Nat => r = 0 ∨ r = 1 ∨ r = 3 ∨ r = 2) (r_X8_refusalOf_16 σ w1 w2 w3 w4) from h
  unfold r_X8_refusalOf_16 r_X8_ofRepair
  repeat' (first | refine zite (P := fun r : Nat => r = 0 ∨ r = 1 ∨ r = 3 ∨ r = 2) ?_ ?_ | exact (by decide))
theorem zmL_repair : zmW yL_repair RL cL_repair 4 (some .int) [(0, 6, 7, 38), (0, 6, 11, 40), (0, 6, 15, 20)] 3 := ⟨m_920, m_0, m_921, rfl, by decide, by decide, by decide +kernel⟩
set_option maxRecDepth 100000 in
set_option maxHeartbeats 4000000 in
theorem ctL_repair (l : Launch) (hl0 : l.stackTraces = false) (D : va_G) (cy : Nat → ClassId) (rf : Nat → Nat) (sb ag : Nat) (ad : Nat → Nat → Nat) (σ : zS) (adD : Nat → Nat → Nat) (δ : zS) (hJ : zJ sb ad adD) (w1 : Int32) (w2 : Int32) (hV : zV σ) (hc : zbd δ 200 512) (hfull : k_full δ = false) : Met l yL_repair (zww yL_repair cL_repair 4 (some .int) [(0, 6, 7, 38), (0, 6, 11, 40), (0, 6, 15, 20)]) (zrx 9 1 6) (va_Pc [.ref sb, .int w1, .int w2] (zBN D cy rf (zSA D cy sb ag ad σ adD δ))) (zqM (some (.int (zans (k_ref σ (nI 16) w1 w2 0 0) (k_pr σ (nI 16) w1 w2 0 0)))) (zSA D cy sb ag ad (k_nS σ 16 w1 w2 0 0) adD (k_nD σ δ 16 w1 w2 0 0)) (zRA ad adD)) 1 6 (zRA ad adD) := by
  refine zmetW (by decide) rfl (Nat.le_of_ble_eq_true rfl) rfl (fun p e s m below meth c ls X hml hr hlocks hex hv hl => ?_)
  obtain ⟨hK, hE, hN, hO, hW, hWD⟩ := hv
  obtain ⟨hx, hb, -, -⟩ := id X
  have hl : lv_has ls 4 [(0, .ref sb), (1, .int w1), (2, .int w2)] := hl
  have hS : va_S (zRA ad adD) s.heap s.heap [] := va_S.rf
  refine lv_aload_n hx hb dL_repair_0 rfl (lv_at hl 0 rfl) ?_
  refine lv_iload_n hx hb dL_repair_1 rfl (lv_at hl 1 rfl) ?_
  refine lv_iload_n hx hb dL_repair_2 rfl (lv_at hl 2 rfl) ?_
  refine zcallCV (As := [.int w1, .int w2]) (rest := []) X hml hK hE ⟨hO, hW, hWD⟩ (ctX9_repair l hl0 D cy rf sb ag ad σ adD δ hJ w1 w2 hV hc hfull) zmX9_repair (by decide) m_922 (zrecv hK hO rfl) ⟨(Nat.le_of_ble_eq_true rfl), (Nat.le_of_ble_eq_true rfl)⟩ ⟨(Nat.le_of_ble_eq_true rfl), (Nat.le_of_ble_eq_true rfl)⟩ rfl hl.1 rfl (Nat.le_of_ble_eq_true rfl) dL_repair_3 hS (fun _ h => h) (fun E ce q9 H locs hr0 hE0 hsz hfr hS hce hcv hcl => ?_) (fun h0 H locs hG9 hsz hfr hS => ?_)
  · replace hO := zO.kept hO (fun hq => hfr _ hq)
    replace hW := zW.kept hW (fun q hq => hfr q (hW.lt hq))
    replace hWD := zW.kept hWD (fun q hq => hfr q (hWD.lt hq))
    rcases (zr_16 σ w1 w2 0 0) with h0 | h0 | h0 | h0
    · exact absurd h0 hr0
    · rw [hE0, h0] at hcl
      refine vx_catch (E := "java/lang/IndexOutOfBoundsException") (name := "java/lang/IndexOutOfBoundsException") X.2.2.1 [] (zte 0 6 7 38) [zte 0 6 11 40, zte 0 6 15 20] (hex.trans rfl) (fun _ h => nomatch h) (by decide) (by decide) (X.2.2.2 _ m_812) (zcastX (X.2.2.2 _ m_15)) hce hcv hcl (?_ : W p l e _ s m _ below meth c _ _ _ _ _ (F0 m 7 ls [.ref q9]))
      refine lv_astore_n (lv' := [(3, .ref q9), (0, .ref sb), (1, .int w1), (2, .int w2)]) hx hb dL_repair_7 rfl hl (by decide) rfl (fun ls hl => ?_)
      refine lv_bipush (v := (-77)) hx hb dL_repair_8 (by decide) ?_
      exact zo_i hx hb hr hlocks (zans_1 h0).symm (by rw [k_nS_1 hr0, k_nD_1 hr0]; exact ⟨hO, hW, hWD⟩) hS (Nat.le_of_ble_eq_true rfl) (Nat.le_of_ble_eq_true rfl) dL_repair_10
    · rw [hE0, h0] at hcl
      refine vx_catch (E := "java/lang/UnsupportedOperationException") (name := "java/lang/UnsupportedOperationException") X.2.2.1 [zte 0 6 7 38] (zte 0 6 11 40) [zte 0 6 15 20] (hex.trans rfl) (List.forall_mem_cons.mpr ⟨Or.inr ⟨by decide, "java/lang/IndexOutOfBoundsException", X.2.2.2 _ m_812, hN 3 1 (by decide) (by decide) (by decide) (by decide) (by decide)⟩, (fun _ h => nomatch h)⟩) (by decide) (by decide) (X.2.2.2 _ m_856) (zcastX (X.2.2.2 _ m_17)) hce hcv hcl (?_ : W p l e _ s m _ below meth c _ _ _ _ _ (F0 m 11 ls [.ref q9]))
      refine lv_astore_n (lv' := [(3, .ref q9), (0, .ref sb), (1, .int w1), (2, .int w2)]) hx hb dL_repair_11 rfl hl (by decide) rfl (fun ls hl => ?_)
      refine lv_bipush (v := (-76)) hx hb dL_repair_12 (by decide) ?_
      exact zo_i hx hb hr hlocks (zans_3 h0).symm (by rw [k_nS_1 hr0, k_nD_1 hr0]; exact ⟨hO, hW, hWD⟩) hS (Nat.le_of_ble_eq_true rfl) (Nat.le_of_ble_eq_true rfl) dL_repair_14
    · rw [hE0, h0] at hcl
      refine vx_catch (E := "java/lang/IllegalArgumentException") (name := "java/lang/IllegalArgumentException") X.2.2.1 [zte 0 6 7 38, zte 0 6 11 40] (zte 0 6 15 20) [] (hex.trans rfl) (List.forall_mem_cons.mpr ⟨Or.inr ⟨by decide, "java/lang/IndexOutOfBoundsException", X.2.2.2 _ m_812, hN 2 1 (by decide) (by decide) (by decide) (by decide) (by decide)⟩, (List.forall_mem_cons.mpr ⟨Or.inr ⟨by decide, "java/lang/UnsupportedOperationException", X.2.2.2 _ m_856, hN 2 3 (by decide) (by decide) (by decide) (by decide) (by decide)⟩, (fun _ h => nomatch h)⟩)⟩) (by decide) (by decide) (X.2.2.2 _ m_647) (zcastX (X.2.2.2 _ m_16)) hce hcv hcl (?_ : W p l e _ s m _ below meth c _ _ _ _ _ (F0 m 15 ls [.ref q9]))
      refine lv_astore_n (lv' := [(3, .ref q9), (0, .ref sb), (1, .int w1), (2, .int w2)]) hx hb dL_repair_15 rfl hl (by decide) rfl (fun ls hl => ?_)
      refine lv_bipush (v := (-78)) hx hb dL_repair_16 (by decide) ?_
      exact zo_i hx hb hr hlocks (zans_2 h0).symm (by rw [k_nS_1 hr0, k_nD_1 hr0]; exact ⟨hO, hW, hWD⟩) hS (Nat.le_of_ble_eq_true rfl) (Nat.le_of_ble_eq_true rfl) dL_repair_18
  · obtain ⟨hO, hW, hWD⟩ := hG9
    exact zo_i hx hb hr hlocks (zans_0 h0).symm (by rw [k_nS_0 h0, k_nD_0 h0]; exact ⟨hO, hW, hWD⟩) hS (Nat.le_of_ble_eq_true rfl) (Nat.le_of_ble_eq_true rfl) dL_repair_6
theorem zr_17 (σ : zS) (w1 w2 w3 w4 : Int32) : k_ref σ (nI 17) w1 w2 w3 w4 = 0 ∨ k_ref σ (nI 17) w1 w2 w3 w4 = 1 ∨ k_ref σ (nI 17) w1 w2 w3 w4 = 3 := by
  rw [show nI 17 = 17 from rfl, k_ref_17]
  suffices h : (fun r : Nat => r = 0 ∨ r = 1 ∨ r = 3) (r_X8_refusalOf_17 σ w1 w2 w3 w4) from h
  unfold r_X8_refusalOf_17 r_X8_ofCanopyIn
  repeat' (first | refine zite (P := fun r : Nat => r = 0 ∨ r = 1 ∨ r = 3) ?_ ?_ | exact (by decide))
theorem zmL_drop : zmW yL_drop RL cL_drop 4 (some .int) [(0, 6, 7, 38), (0, 6, 11, 40)] 3 := ⟨m_913, m_0, m_914, rfl, by decide, by decide, by decide +kernel⟩
set_option maxRecDepth 100000 in
set_option maxHeartbeats 4000000 in
theorem ctL_drop (l : Launch) (hl0 : l.stackTraces = false) (D : va_G) (cy : Nat → ClassId) (rf : Nat → Nat) (sb ag : Nat) (ad : Nat → Nat → Nat) (σ : zS) (adD : Nat → Nat → Nat) (δ : zS) (hJ : zJ sb ad adD) (w1 : Int32) (w2 : Bool) (hV : zV σ) (hc : zbd δ 200 512) (hfull : k_full δ = false) : Met l yL_drop (zww yL_drop cL_drop 4 (some .int) [(0, 6, 7, 38), (0, 6, 11, 40)]) (zrx 9 1 6) (va_Pc [.ref sb, .int w1, .int (bI w2)] (zBN D cy rf (zSA D cy sb ag ad σ adD δ))) (zqM (some (.int (zans (k_ref σ (nI 17) w1 (bI w2) 0 0) (k_pr σ (nI 17) w1 (bI w2) 0 0)))) (zSA D cy sb ag ad (k_nS σ 17 w1 (bI w2) 0 0) adD (k_nD σ δ 17 w1 (bI w2) 0 0)) (zRA ad adD)) 1 6 (zRA ad adD) := by
  refine zmetW (by decide) rfl (Nat.le_of_ble_eq_true rfl) rfl (fun p e s m below meth c ls X hml hr hlocks hex hv hl => ?_)
  obtain ⟨hK, hE, hN, hO, hW, hWD⟩ := hv
  obtain ⟨hx, hb, -, -⟩ := id X
  have hl : lv_has ls 4 [(0, .ref sb), (1, .int w1), (2, .int (bI w2))] := hl
  have hS : va_S (zRA ad adD) s.heap s.heap [] := va_S.rf
  refine lv_aload_n hx hb dL_drop_0 rfl (lv_at hl 0 rfl) ?_
  refine lv_iload_n hx hb dL_drop_1 rfl (lv_at hl 1 rfl) ?_
  refine lv_iload_n hx hb dL_drop_2 rfl (lv_at hl 2 rfl) ?_
  refine zcallCV (As := [.int w1, .int (bI w2)]) (rest := []) X hml hK hE ⟨hO, hW, hWD⟩ (ctX9_drop l hl0 D cy rf sb ag ad σ adD δ hJ w1 w2 hV hc hfull) zmX9_drop (by decide) m_915 (zrecv hK hO rfl) ⟨(Nat.le_of_ble_eq_true rfl), (Nat.le_of_ble_eq_true rfl)⟩ ⟨(Nat.le_of_ble_eq_true rfl), (Nat.le_of_ble_eq_true rfl)⟩ rfl hl.1 rfl (Nat.le_of_ble_eq_true rfl) dL_drop_3 hS (fun _ h => h) (fun E ce q9 H locs hr0 hE0 hsz hfr hS hce hcv hcl => ?_) (fun h0 H locs hG9 hsz hfr hS => ?_)
  · replace hO := zO.kept hO (fun hq => hfr _ hq)
    replace hW := zW.kept hW (fun q hq => hfr q (hW.lt hq))
    replace hWD := zW.kept hWD (fun q hq => hfr q (hWD.lt hq))
    rcases (zr_17 σ w1 (bI w2) 0 0) with h0 | h0 | h0
    · exact absurd h0 hr0
    · rw [hE0, h0] at hcl
      refine vx_catch (E := "java/lang/IndexOutOfBoundsException") (name := "java/lang/IndexOutOfBoundsException") X.2.2.1 [] (zte 0 6 7 38) [zte 0 6 11 40] (hex.trans rfl) (fun _ h => nomatch h) (by decide) (by decide) (X.2.2.2 _ m_812) (zcastX (X.2.2.2 _ m_15)) hce hcv hcl (?_ : W p l e _ s m _ below meth c _ _ _ _ _ (F0 m 7 ls [.ref q9]))
      refine lv_astore_n (lv' := [(3, .ref q9), (0, .ref sb), (1, .int w1), (2, .int (bI w2))]) hx hb dL_drop_7 rfl hl (by decide) rfl (fun ls hl => ?_)
      refine lv_bipush (v := (-77)) hx hb dL_drop_8 (by decide) ?_
      exact zo_i hx hb hr hlocks (zans_1 h0).symm (by rw [k_nS_1 hr0, k_nD_1 hr0]; exact ⟨hO, hW, hWD⟩) hS (Nat.le_of_ble_eq_true rfl) (Nat.le_of_ble_eq_true rfl) dL_drop_10
    · rw [hE0, h0] at hcl
      refine vx_catch (E := "java/lang/UnsupportedOperationException") (name := "java/lang/UnsupportedOperationException") X.2.2.1 [zte 0 6 7 38] (zte 0 6 11 40) [] (hex.trans rfl) (List.forall_mem_cons.mpr ⟨Or.inr ⟨by decide, "java/lang/IndexOutOfBoundsException", X.2.2.2 _ m_812, hN 3 1 (by decide) (by decide) (by decide) (by decide) (by decide)⟩, (fun _ h => nomatch h)⟩) (by decide) (by decide) (X.2.2.2 _ m_856) (zcastX (X.2.2.2 _ m_17)) hce hcv hcl (?_ : W p l e _ s m _ below meth c _ _ _ _ _ (F0 m 11 ls [.ref q9]))
      refine lv_astore_n (lv' := [(3, .ref q9), (0, .ref sb), (1, .int w1), (2, .int (bI w2))]) hx hb dL_drop_11 rfl hl (by decide) rfl (fun ls hl => ?_)
      refine lv_bipush (v := (-76)) hx hb dL_drop_12 (by decide) ?_
      exact zo_i hx hb hr hlocks (zans_3 h0).symm (by rw [k_nS_1 hr0, k_nD_1 hr0]; exact ⟨hO, hW, hWD⟩) hS (Nat.le_of_ble_eq_true rfl) (Nat.le_of_ble_eq_true rfl) dL_drop_14
  · obtain ⟨hO, hW, hWD⟩ := hG9
    exact zo_i hx hb hr hlocks (zans_0 h0).symm (by rw [k_nS_0 h0, k_nD_0 h0]; exact ⟨hO, hW, hWD⟩) hS (Nat.le_of_ble_eq_true rfl) (Nat.le_of_ble_eq_true rfl) dL_drop_6
theorem zr_18 (σ : zS) (w1 w2 w3 w4 : Int32) : k_ref σ (nI 18) w1 w2 w3 w4 = 0 ∨ k_ref σ (nI 18) w1 w2 w3 w4 = 1 ∨ k_ref σ (nI 18) w1 w2 w3 w4 = 2 ∨ k_ref σ (nI 18) w1 w2 w3 w4 = 3 := by
  rw [show nI 18 = 18 from rfl, k_ref_18]
  suffices h : (fun r : Nat => r = 0 ∨ r = 1 ∨ r = 2 ∨ r = 3) (r_X8_refusalOf_18 σ w1 w2 w3 w4) from h
  unfold r_X8_refusalOf_18 r_X8_ofHire
  repeat' (first | refine zite (P := fun r : Nat => r = 0 ∨ r = 1 ∨ r = 2 ∨ r = 3) ?_ ?_ | exact (by decide))
theorem zmL_hire : zmW yL_hire RL cL_hire 5 (some .int) [(0, 7, 8, 38), (0, 7, 13, 20), (0, 7, 18, 40)] 4 := ⟨m_1016, m_0, m_1017, rfl, by decide, by decide, by decide +kernel⟩
set_option maxRecDepth 100000 in
set_option maxHeartbeats 4000000 in
theorem ctL_hire (l : Launch) (hl0 : l.stackTraces = false) (D : va_G) (cy : Nat → ClassId) (rf : Nat → Nat) (sb ag : Nat) (ad : Nat → Nat → Nat) (σ : zS) (adD : Nat → Nat → Nat) (δ : zS) (hJ : zJ sb ad adD) (w1 : Int32) (w2 : Int32) (w3 : Int32) (hV : zV σ) (hc : zbd δ 200 512) (hfull : k_full δ = false) : Met l yL_hire (zww yL_hire cL_hire 5 (some .int) [(0, 7, 8, 38), (0, 7, 13, 20), (0, 7, 18, 40)]) (zrx 9 1 6) (va_Pc [.ref sb, .int w1, .int w2, .int w3] (zBN D cy rf (zSA D cy sb ag ad σ adD δ))) (zqM (some (.int (zans (k_ref σ (nI 18) w1 w2 w3 0) (k_pr σ (nI 18) w1 w2 w3 0)))) (zSA D cy sb ag ad (k_nS σ 18 w1 w2 w3 0) adD (k_nD σ δ 18 w1 w2 w3 0)) (zRA ad adD)) 1 6 (zRA ad adD) := by
  refine zmetW (by decide) rfl (Nat.le_of_ble_eq_true rfl) rfl (fun p e s m below meth c ls X hml hr hlocks hex hv hl => ?_)
  obtain ⟨hK, hE, hN, hO, hW, hWD⟩ := hv
  obtain ⟨hx, hb, -, -⟩ := id X
  have hl : lv_has ls 5 [(0, .ref sb), (1, .int w1), (2, .int w2), (3, .int w3)] := hl
  have hS : va_S (zRA ad adD) s.heap s.heap [] := va_S.rf
  refine lv_aload_n hx hb dL_hire_0 rfl (lv_at hl 0 rfl) ?_
  refine lv_iload_n hx hb dL_hire_1 rfl (lv_at hl 1 rfl) ?_
  refine lv_iload_n hx hb dL_hire_2 rfl (lv_at hl 2 rfl) ?_
  refine lv_iload_n hx hb dL_hire_3 rfl (lv_at hl 3 rfl) ?_
  refine zcallCV (As := [.int w1, .int w2, .int w3]) (rest := []) X hml hK hE ⟨hO, hW, hWD⟩ (ctX9_hire l hl0 D cy rf sb ag ad σ adD δ hJ w1 w2 w3 hV hc hfull) zmX9_hire (by decide) m_1018 (zrecv hK hO rfl) ⟨(Nat.le_of_ble_eq_true rfl), (Nat.le_of_ble_eq_true rfl)⟩ ⟨(Nat.le_of_ble_eq_true rfl), (Nat.le_of_ble_eq_true rfl)⟩ rfl hl.1 rfl (Nat.le_of_ble_eq_true rfl) dL_hire_4 hS (fun _ h => h) (fun E ce q9 H locs hr0 hE0 hsz hfr hS hce hcv hcl => ?_) (fun h0 H locs hG9 hsz hfr hS => ?_)
  · replace hO := zO.kept hO (fun hq => hfr _ hq)
    replace hW := zW.kept hW (fun q hq => hfr q (hW.lt hq))
    replace hWD := zW.kept hWD (fun q hq => hfr q (hWD.lt hq))
    rcases (zr_18 σ w1 w2 w3 0) with h0 | h0 | h0 | h0
    · exact absurd h0 hr0
    · rw [hE0, h0] at hcl
      refine vx_catch (E := "java/lang/IndexOutOfBoundsException") (name := "java/lang/IndexOutOfBoundsException") X.2.2.1 [] (zte 0 7 8 38) [zte 0 7 13 20, zte 0 7 18 40] (hex.trans rfl) (fun _ h => nomatch h) (by decide) (by decide) (X.2.2.2 _ m_812) (zcastX (X.2.2.2 _ m_15)) hce hcv hcl (?_ : W p l e _ s m _ below meth c _ _ _ _ _ (F0 m 8 ls [.ref q9]))
      refine lv_astore (lv' := [(4, .ref q9), (0, .ref sb), (1, .int w1), (2, .int w2), (3, .int w3)]) hx hb dL_hire_8 hl (by decide) rfl (fun ls hl => ?_)
      refine lv_bipush (v := (-77)) hx hb dL_hire_10 (by decide) ?_
      exact zo_i hx hb hr hlocks (zans_1 h0).symm (by rw [k_nS_1 hr0, k_nD_1 hr0]; exact ⟨hO, hW, hWD⟩) hS (Nat.le_of_ble_eq_true rfl) (Nat.le_of_ble_eq_true rfl) dL_hire_12
    · rw [hE0, h0] at hcl
      refine vx_catch (E := "java/lang/IllegalArgumentException") (name := "java/lang/IllegalArgumentException") X.2.2.1 [zte 0 7 8 38] (zte 0 7 13 20) [zte 0 7 18 40] (hex.trans rfl) (List.forall_mem_cons.mpr ⟨Or.inr ⟨by decide, "java/lang/IndexOutOfBoundsException", X.2.2.2 _ m_812, hN 2 1 (by decide) (by decide) (by decide) (by decide) (by decide)⟩, (fun _ h => nomatch h)⟩) (by decide) (by decide) (X.2.2.2 _ m_647) (zcastX (X.2.2.2 _ m_16)) hce hcv hcl (?_ : W p l e _ s m _ below meth c _ _ _ _ _ (F0 m 13 ls [.ref q9]))
      refine lv_astore (lv' := [(4, .ref q9), (0, .ref sb), (1, .int w1), (2, .int w2), (3, .int w3)]) hx hb dL_hire_13 hl (by decide) rfl (fun ls hl => ?_)
      refine lv_bipush (v := (-78)) hx hb dL_hire_15 (by decide) ?_
      exact zo_i hx hb hr hlocks (zans_2 h0).symm (by rw [k_nS_1 hr0, k_nD_1 hr0]; exact ⟨hO, hW, hWD⟩) hS (Nat.le_of_ble_eq_true rfl) (Nat.le_of_ble_eq_true rfl) dL_hire_17
    · rw [hE0, h0] at hcl
      refine vx_catch (E := "java/lang/UnsupportedOperationException") (name := "java/lang/UnsupportedOperationException") X.2.2.1 [zte 0 7 8 38, zte 0 7 13 20] (zte 0 7 18 40) [] (hex.trans rfl) (List.forall_mem_cons.mpr ⟨Or.inr ⟨by decide, "java/lang/IndexOutOfBoundsException", X.2.2.2 _ m_812, hN 3 1 (by decide) (by decide) (by decide) (by decide) (by decide)⟩, (List.forall_mem_cons.mpr ⟨Or.inr ⟨by decide, "java/lang/IllegalArgumentException", X.2.2.2 _ m_647, hN 3 2 (by decide) (by decide) (by decide) (by decide) (by decide)⟩, (fun _ h => nomatch h)⟩)⟩) (by decide) (by decide) (X.2.2.2 _ m_856) (zcastX (X.2.2.2 _ m_17)) hce hcv hcl (?_ : W p l e _ s m _ below meth c _ _ _ _ _ (F0 m 18 ls [.ref q9]))
      refine lv_astore (lv' := [(4, .ref q9), (0, .ref sb), (1, .int w1), (2, .int w2), (3, .int w3)]) hx hb dL_hire_18 hl (by decide) rfl (fun ls hl => ?_)
      refine lv_bipush (v := (-76)) hx hb dL_hire_20 (by decide) ?_
      exact zo_i hx hb hr hlocks (zans_3 h0).symm (by rw [k_nS_1 hr0, k_nD_1 hr0]; exact ⟨hO, hW, hWD⟩) hS (Nat.le_of_ble_eq_true rfl) (Nat.le_of_ble_eq_true rfl) dL_hire_22
  · obtain ⟨hO, hW, hWD⟩ := hG9
    exact zo_i hx hb hr hlocks (zans_0 h0).symm (by rw [k_nS_0 h0, k_nD_0 h0]; exact ⟨hO, hW, hWD⟩) hS (Nat.le_of_ble_eq_true rfl) (Nat.le_of_ble_eq_true rfl) dL_hire_7
theorem zr_19 (σ : zS) (w1 w2 w3 w4 : Int32) : k_ref σ (nI 19) w1 w2 w3 w4 = 0 ∨ k_ref σ (nI 19) w1 w2 w3 w4 = 1 ∨ k_ref σ (nI 19) w1 w2 w3 w4 = 3 := by
  rw [show nI 19 = 19 from rfl, k_ref_19]
  suffices h : (fun r : Nat => r = 0 ∨ r = 1 ∨ r = 3) (r_X8_refusalOf_19 σ w1 w2 w3 w4) from h
  unfold r_X8_refusalOf_19 r_X8_ofCanopyIn
  repeat' (first | refine zite (P := fun r : Nat => r = 0 ∨ r = 1 ∨ r = 3) ?_ ?_ | exact (by decide))
theorem zmL_back : zmW yL_back RL cL_back 5 (some .int) [(0, 7, 8, 38), (0, 7, 13, 40)] 4 := ⟨m_1009, m_0, m_1010, rfl, by decide, by decide, by decide +kernel⟩
set_option maxRecDepth 100000 in
set_option maxHeartbeats 4000000 in
theorem ctL_back (l : Launch) (hl0 : l.stackTraces = false) (D : va_G) (cy : Nat → ClassId) (rf : Nat → Nat) (sb ag : Nat) (ad : Nat → Nat → Nat) (σ : zS) (adD : Nat → Nat → Nat) (δ : zS) (hJ : zJ sb ad adD) (w1 : Int32) (w2 : Bool) (w3 : Bool) (hV : zV σ) (hc : zbd δ 200 512) (hfull : k_full δ = false) : Met l yL_back (zww yL_back cL_back 5 (some .int) [(0, 7, 8, 38), (0, 7, 13, 40)]) (zrx 9 1 6) (va_Pc [.ref sb, .int w1, .int (bI w2), .int (bI w3)] (zBN D cy rf (zSA D cy sb ag ad σ adD δ))) (zqM (some (.int (zans (k_ref σ (nI 19) w1 (bI w2) (bI w3) 0) (k_pr σ (nI 19) w1 (bI w2) (bI w3) 0)))) (zSA D cy sb ag ad (k_nS σ 19 w1 (bI w2) (bI w3) 0) adD (k_nD σ δ 19 w1 (bI w2) (bI w3) 0)) (zRA ad adD)) 1 6 (zRA ad adD) := by
  refine zmetW (by decide) rfl (Nat.le_of_ble_eq_true rfl) rfl (fun p e s m below meth c ls X hml hr hlocks hex hv hl => ?_)
  obtain ⟨hK, hE, hN, hO, hW, hWD⟩ := hv
  obtain ⟨hx, hb, -, -⟩ := id X
  have hl : lv_has ls 5 [(0, .ref sb), (1, .int w1), (2, .int (bI w2)), (3, .int (bI w3))] := hl
  have hS : va_S (zRA ad adD) s.heap s.heap [] := va_S.rf
  refine lv_aload_n hx hb dL_back_0 rfl (lv_at hl 0 rfl) ?_
  refine lv_iload_n hx hb dL_back_1 rfl (lv_at hl 1 rfl) ?_
  refine lv_iload_n hx hb dL_back_2 rfl (lv_at hl 2 rfl) ?_
  refine lv_iload_n hx hb dL_back_3 rfl (lv_at hl 3 rfl) ?_
  refine zcallCV (As := [.int w1, .int (bI w2), .int (bI w3)]) (rest := []) X hml hK hE ⟨hO, hW, hWD⟩ (ctX9_back l hl0 D cy rf sb ag ad σ adD δ hJ w1 w2 w3 hV hc hfull) zmX9_back (by decide) m_1011 (zrecv hK hO rfl) ⟨(Nat.le_of_ble_eq_true rfl), (Nat.le_of_ble_eq_true rfl)⟩ ⟨(Nat.le_of_ble_eq_true rfl), (Nat.le_of_ble_eq_true rfl)⟩ rfl hl.1 rfl (Nat.le_of_ble_eq_true rfl) dL_back_4 hS (fun _ h => h) (fun E ce q9 H locs hr0 hE0 hsz hfr hS hce hcv hcl => ?_) (fun h0 H locs hG9 hsz hfr hS => ?_)
  · replace hO := zO.kept hO (fun hq => hfr _ hq)
    replace hW := zW.kept hW (fun q hq => hfr q (hW.lt hq))
    replace hWD := zW.kept hWD (fun q hq => hfr q (hWD.lt hq))
    rcases (zr_19 σ w1 (bI w2) (bI w3) 0) with h0 | h0 | h0
    · exact absurd h0 hr0
    · rw [hE0, h0] at hcl
      refine vx_catch (E := "java/lang/IndexOutOfBoundsException") (name := "java/lang/IndexOutOfBoundsException") X.2.2.1 [] (zte 0 7 8 38) [zte 0 7 13 40] (hex.trans rfl) (fun _ h => nomatch h) (by decide) (by decide) (X.2.2.2 _ m_812) (zcastX (X.2.2.2 _ m_15)) hce hcv hcl (?_ : W p l e _ s m _ below meth c _ _ _ _ _ (F0 m 8 ls [.ref q9]))
      refine lv_astore (lv' := [(4, .ref q9), (0, .ref sb), (1, .int w1), (2, .int (bI w2)), (3, .int (bI w3))]) hx hb dL_back_8 hl (by decide) rfl (fun ls hl => ?_)
      refine lv_bipush (v := (-77)) hx hb dL_back_10 (by decide) ?_
      exact zo_i hx hb hr hlocks (zans_1 h0).symm (by rw [k_nS_1 hr0, k_nD_1 hr0]; exact ⟨hO, hW, hWD⟩) hS (Nat.le_of_ble_eq_true rfl) (Nat.le_of_ble_eq_true rfl) dL_back_12
    · rw [hE0, h0] at hcl
      refine vx_catch (E := "java/lang/UnsupportedOperationException") (name := "java/lang/UnsupportedOperationException") X.2.2.1 [zte 0 7 8 38] (zte 0 7 13 40) [] (hex.trans rfl) (List.forall_mem_cons.mpr ⟨Or.inr ⟨by decide, "java/lang/IndexOutOfBoundsException", X.2.2.2 _ m_812, hN 3 1 (by decide) (by decide) (by decide) (by decide) (by decide)⟩, (fun _ h => nomatch h)⟩) (by decide) (by decide) (X.2.2.2 _ m_856) (zcastX (X.2.2.2 _ m_17)) hce hcv hcl (?_ : W p l e _ s m _ below meth c _ _ _ _ _ (F0 m 13 ls [.ref q9]))
      refine lv_astore (lv' := [(4, .ref q9), (0, .ref sb), (1, .int w1), (2, .int (bI w2)), (3, .int (bI w3))]) hx hb dL_back_13 hl (by decide) rfl (fun ls hl => ?_)
      refine lv_bipush (v := (-76)) hx hb dL_back_15 (by decide) ?_
      exact zo_i hx hb hr hlocks (zans_3 h0).symm (by rw [k_nS_1 hr0, k_nD_1 hr0]; exact ⟨hO, hW, hWD⟩) hS (Nat.le_of_ble_eq_true rfl) (Nat.le_of_ble_eq_true rfl) dL_back_17
  · obtain ⟨hO, hW, hWD⟩ := hG9
    exact zo_i hx hb hr hlocks (zans_0 h0).symm (by rw [k_nS_0 h0, k_nD_0 h0]; exact ⟨hO, hW, hWD⟩) hS (Nat.le_of_ble_eq_true rfl) (Nat.le_of_ble_eq_true rfl) dL_back_7
theorem zr_at (σ : zS) (x : Int32) : k_at σ x = 0 ∨ k_at σ x = 1 := by unfold k_at; split <;> simp
theorem zr_atF (σ : zS) (x : Int32) : k_atF σ x = 0 ∨ k_atF σ x = 1 := by unfold k_atF; split <;> simp
theorem zr_pkr (σ : zS) (x j w : Int32) : k_pkr σ x j w = 0 ∨ k_pkr σ x j w = 1 ∨ k_pkr σ x j w = 2 := by unfold k_pkr; (repeat' split) <;> simp
theorem zr_nx (σ : zS) : k_nxr σ = 0 ∨ k_nxr σ = 5 := by unfold k_nxr; split <;> simp
theorem zmL_grounds : zmW yL_grounds RL cL_grounds 3 (some .int) [(0, 5, 6, 38)] 2 := ⟨m_934, m_0, m_935, rfl, by decide, by decide, by decide +kernel⟩
set_option maxRecDepth 100000 in
set_option maxHeartbeats 4000000 in
theorem ctL_grounds (l : Launch) (hl0 : l.stackTraces = false) (D : va_G) (cy : Nat → ClassId) (rf : Nat → Nat) (sb ag : Nat) (ad : Nat → Nat → Nat) (σ : zS) (adD : Nat → Nat → Nat) (δ : zS) (x : Int32) (hV : zV σ) : Met l yL_grounds (zww yL_grounds cL_grounds 3 (some .int) [(0, 5, 6, 38)]) (zrx 9 1 6) (va_Pc [.ref sb, .int x] (zBN D cy rf (zSA D cy sb ag ad σ adD δ))) (zqM (some (.int (zans (k_atF σ x) (nI (k_cntG σ x.toNatClampNeg))))) (zSA D cy sb ag ad σ adD δ) (fun _ => False)) 1 6 (fun _ => False) := by
  refine zmetW (by decide) rfl (Nat.le_of_ble_eq_true rfl) rfl (fun p e s m below meth c ls X hml hr hlocks hex hv hl => ?_)
  obtain ⟨hK, hE, hN, hO, hW, hWD⟩ := hv
  obtain ⟨hx, hb, -, -⟩ := id X
  have hl : lv_has ls 3 [(0, .ref sb), (1, .int x)] := hl
  have hS : va_S (fun _ => False) s.heap s.heap [] := va_S.rf
  refine lv_aload_n hx hb dL_grounds_0 rfl (lv_at hl 0 rfl) ?_
  refine lv_iload_n hx hb dL_grounds_1 rfl (lv_at hl 1 rfl) ?_
  refine zcallCV (As := [.int x]) (rest := []) X hml hK hE ⟨hO, hW, hWD⟩ (ctX9_grounds l hl0 D cy rf sb ag ad σ adD δ x hV) zmX9_grounds (by decide) m_936 (zrecv hK hO rfl) ⟨(Nat.le_of_ble_eq_true rfl), (Nat.le_of_ble_eq_true rfl)⟩ ⟨(Nat.le_of_ble_eq_true rfl), (Nat.le_of_ble_eq_true rfl)⟩ rfl hl.1 rfl (Nat.le_of_ble_eq_true rfl) dL_grounds_2 hS (fun _ h => h.elim) (fun E ce q9 H locs hr0 hE0 hsz hfr hS hce hcv hcl => ?_) (fun h0 H locs hG9 hsz hfr hS => ?_)
  · replace hO := zO.kept hO (fun hq => hfr _ hq)
    replace hW := zW.kept hW (fun q hq => hfr q (hW.lt hq))
    replace hWD := zW.kept hWD (fun q hq => hfr q (hWD.lt hq))
    rcases (zr_atF σ x) with h0 | h0
    · exact absurd h0 hr0
    · rw [hE0, h0] at hcl
      refine vx_catch (E := "java/lang/IndexOutOfBoundsException") (name := "java/lang/IndexOutOfBoundsException") X.2.2.1 [] (zte 0 5 6 38) [] (hex.trans rfl) (fun _ h => nomatch h) (by decide) (by decide) (X.2.2.2 _ m_812) (zcastX (X.2.2.2 _ m_15)) hce hcv hcl (?_ : W p l e _ s m _ below meth c _ _ _ _ _ (F0 m 6 ls [.ref q9]))
      refine lv_astore_n (lv' := [(2, .ref q9), (0, .ref sb), (1, .int x)]) hx hb dL_grounds_6 rfl hl (by decide) rfl (fun ls hl => ?_)
      refine lv_bipush (v := (-77)) hx hb dL_grounds_7 (by decide) ?_
      exact zo_i hx hb hr hlocks (zans_1 h0).symm ⟨hO, hW, hWD⟩ hS (Nat.le_of_ble_eq_true rfl) (Nat.le_of_ble_eq_true rfl) dL_grounds_9
  · obtain ⟨hO, hW, hWD⟩ := hG9
    exact zo_i hx hb hr hlocks (zans_0 h0).symm ⟨hO, hW, hWD⟩ hS (Nat.le_of_ble_eq_true rfl) (Nat.le_of_ble_eq_true rfl) dL_grounds_5
theorem zmL_stateOf : zmW yL_stateOf RL cL_stateOf 3 (some .int) [(0, 5, 6, 38)] 2 := ⟨m_847, m_0, m_848, rfl, by decide, by decide, by decide +kernel⟩
set_option maxRecDepth 100000 in
set_option maxHeartbeats 4000000 in
theorem ctL_stateOf (l : Launch) (hl0 : l.stackTraces = false) (D : va_G) (cy : Nat → ClassId) (rf : Nat → Nat) (sb ag : Nat) (ad : Nat → Nat → Nat) (σ : zS) (adD : Nat → Nat → Nat) (δ : zS) (x : Int32) (hV : zV σ) (hch : k_has σ 506 x = true → narrow .char (.int (zI σ 105 x.toNatClampNeg)) = .int (zI σ 105 x.toNatClampNeg)) : Met l yL_stateOf (zww yL_stateOf cL_stateOf 3 (some .int) [(0, 5, 6, 38)]) (zrx 9 1 6) (va_Pc [.ref sb, .int x] (zBN D cy rf (zSA D cy sb ag ad σ adD δ))) (zqM (some (.int (zans (k_at σ x) (zI σ 105 x.toNatClampNeg)))) (zSA D cy sb ag ad σ adD δ) (fun _ => False)) 1 6 (fun _ => False) := by
  refine zmetW (by decide) rfl (Nat.le_of_ble_eq_true rfl) rfl (fun p e s m below meth c ls X hml hr hlocks hex hv hl => ?_)
  obtain ⟨hK, hE, hN, hO, hW, hWD⟩ := hv
  obtain ⟨hx, hb, -, -⟩ := id X
  have hl : lv_has ls 3 [(0, .ref sb), (1, .int x)] := hl
  have hS : va_S (fun _ => False) s.heap s.heap [] := va_S.rf
  refine lv_aload_n hx hb dL_stateOf_0 rfl (lv_at hl 0 rfl) ?_
  refine lv_iload_n hx hb dL_stateOf_1 rfl (lv_at hl 1 rfl) ?_
  refine zcallCV (As := [.int x]) (rest := []) X hml hK hE ⟨hO, hW, hWD⟩ (ctX9_stateOf l hl0 D cy rf sb ag ad σ adD δ x hV hch) zmX9_stateOf (by decide) m_849 (zrecv hK hO rfl) ⟨(Nat.le_of_ble_eq_true rfl), (Nat.le_of_ble_eq_true rfl)⟩ ⟨(Nat.le_of_ble_eq_true rfl), (Nat.le_of_ble_eq_true rfl)⟩ rfl hl.1 rfl (Nat.le_of_ble_eq_true rfl) dL_stateOf_2 hS (fun _ h => h.elim) (fun E ce q9 H locs hr0 hE0 hsz hfr hS hce hcv hcl => ?_) (fun h0 H locs hG9 hsz hfr hS => ?_)
  · replace hO := zO.kept hO (fun hq => hfr _ hq)
    replace hW := zW.kept hW (fun q hq => hfr q (hW.lt hq))
    replace hWD := zW.kept hWD (fun q hq => hfr q (hWD.lt hq))
    rcases (zr_at σ x) with h0 | h0
    · exact absurd h0 hr0
    · rw [hE0, h0] at hcl
      refine vx_catch (E := "java/lang/IndexOutOfBoundsException") (name := "java/lang/IndexOutOfBoundsException") X.2.2.1 [] (zte 0 5 6 38) [] (hex.trans rfl) (fun _ h => nomatch h) (by decide) (by decide) (X.2.2.2 _ m_812) (zcastX (X.2.2.2 _ m_15)) hce hcv hcl (?_ : W p l e _ s m _ below meth c _ _ _ _ _ (F0 m 6 ls [.ref q9]))
      refine lv_astore_n (lv' := [(2, .ref q9), (0, .ref sb), (1, .int x)]) hx hb dL_stateOf_6 rfl hl (by decide) rfl (fun ls hl => ?_)
      refine lv_bipush (v := (-77)) hx hb dL_stateOf_7 (by decide) ?_
      exact zo_i hx hb hr hlocks (zans_1 h0).symm ⟨hO, hW, hWD⟩ hS (Nat.le_of_ble_eq_true rfl) (Nat.le_of_ble_eq_true rfl) dL_stateOf_9
  · obtain ⟨hO, hW, hWD⟩ := hG9
    exact zo_i hx hb hr hlocks (zans_0 h0).symm ⟨hO, hW, hWD⟩ hS (Nat.le_of_ble_eq_true rfl) (Nat.le_of_ble_eq_true rfl) dL_stateOf_5
theorem zmL_isGrounded : zmW yL_isGrounded RL cL_isGrounded 3 (some .int) [(0, 13, 14, 38)] 2 := ⟨m_883, m_0, m_884, rfl, by decide, by decide, by decide +kernel⟩
set_option maxRecDepth 100000 in
set_option maxHeartbeats 4000000 in
theorem ctL_isGrounded (l : Launch) (hl0 : l.stackTraces = false) (D : va_G) (cy : Nat → ClassId) (rf : Nat → Nat) (sb ag : Nat) (ad : Nat → Nat → Nat) (σ : zS) (adD : Nat → Nat → Nat) (δ : zS) (x : Int32) (hV : zV σ) : Met l yL_isGrounded (zww yL_isGrounded cL_isGrounded 3 (some .int) [(0, 13, 14, 38)]) (zrx 9 1 6) (va_Pc [.ref sb, .int x] (zBN D cy rf (zSA D cy sb ag ad σ adD δ))) (zqM (some (.int (zans (k_at σ x) (bI (k_down σ x.toNatClampNeg))))) (zSA D cy sb ag ad σ adD δ) (fun _ => False)) 1 6 (fun _ => False) := by
  refine zmetW (by decide) rfl (Nat.le_of_ble_eq_true rfl) rfl (fun p e s m below meth c ls X hml hr hlocks hex hv hl => ?_)
  obtain ⟨hK, hE, hN, hO, hW, hWD⟩ := hv
  obtain ⟨hx, hb, -, -⟩ := id X
  have hl : lv_has ls 3 [(0, .ref sb), (1, .int x)] := hl
  have hS : va_S (fun _ => False) s.heap s.heap [] := va_S.rf
  refine lv_aload_n hx hb dL_isGrounded_0 rfl (lv_at hl 0 rfl) ?_
  refine lv_iload_n hx hb dL_isGrounded_1 rfl (lv_at hl 1 rfl) ?_
  refine zcallCV (As := [.int x]) (rest := []) X hml hK hE ⟨hO, hW, hWD⟩ (ctX9_isGrounded l hl0 D cy rf sb ag ad σ adD δ x hV) zmX9_isGrounded (by decide) m_885 (zrecv hK hO rfl) ⟨(Nat.le_of_ble_eq_true rfl), (Nat.le_of_ble_eq_true rfl)⟩ ⟨(Nat.le_of_ble_eq_true rfl), (Nat.le_of_ble_eq_true rfl)⟩ rfl hl.1 rfl (Nat.le_of_ble_eq_true rfl) dL_isGrounded_2 hS (fun _ h => h.elim) (fun E ce q9 H locs hr0 hE0 hsz hfr hS hce hcv hcl => ?_) (fun h0 H locs hG9 hsz hfr hS => ?_)
  · replace hO := zO.kept hO (fun hq => hfr _ hq)
    replace hW := zW.kept hW (fun q hq => hfr q (hW.lt hq))
    replace hWD := zW.kept hWD (fun q hq => hfr q (hWD.lt hq))
    rcases (zr_at σ x) with h0 | h0
    · exact absurd h0 hr0
    · rw [hE0, h0] at hcl
      refine vx_catch (E := "java/lang/IndexOutOfBoundsException") (name := "java/lang/IndexOutOfBoundsException") X.2.2.1 [] (zte 0 13 14 38) [] (hex.trans rfl) (fun _ h => nomatch h) (by decide) (by decide) (X.2.2.2 _ m_812) (zcastX (X.2.2.2 _ m_15)) hce hcv hcl (?_ : W p l e _ s m _ below meth c _ _ _ _ _ (F0 m 14 ls [.ref q9]))
      refine lv_astore_n (lv' := [(2, .ref q9), (0, .ref sb), (1, .int x)]) hx hb dL_isGrounded_14 rfl hl (by decide) rfl (fun ls hl => ?_)
      refine lv_bipush (v := (-77)) hx hb dL_isGrounded_15 (by decide) ?_
      exact zo_i hx hb hr hlocks (zans_1 h0).symm ⟨hO, hW, hWD⟩ hS (Nat.le_of_ble_eq_true rfl) (Nat.le_of_ble_eq_true rfl) dL_isGrounded_17
  · obtain ⟨hO, hW, hWD⟩ := hG9
    refine zb_eq (tgt := 12) hx hb dL_isGrounded_5 (by decide) (fun b1 => ?_) (fun b1 => ?_)
    · refine lv_iconst (v := 0) hx hb dL_isGrounded_12 (by decide) ?_
      exact zo_i hx hb hr hlocks (zans_b0 h0 b1).symm ⟨hO, hW, hWD⟩ hS (Nat.le_of_ble_eq_true rfl) (Nat.le_of_ble_eq_true rfl) dL_isGrounded_13
    · refine lv_iconst (v := 1) hx hb dL_isGrounded_8 (by decide) ?_
      refine lv_goto (tgt := 13) hx hb dL_isGrounded_9 (by decide) ?_
      exact zo_i hx hb hr hlocks (zans_b1 h0 b1).symm ⟨hO, hW, hWD⟩ hS (Nat.le_of_ble_eq_true rfl) (Nat.le_of_ble_eq_true rfl) dL_isGrounded_13
theorem zmL_isOut : zmW yL_isOut RL cL_isOut 3 (some .int) [(0, 13, 14, 38)] 2 := ⟨m_891, m_0, m_892, rfl, by decide, by decide, by decide +kernel⟩
set_option maxRecDepth 100000 in
set_option maxHeartbeats 4000000 in
theorem ctL_isOut (l : Launch) (hl0 : l.stackTraces = false) (D : va_G) (cy : Nat → ClassId) (rf : Nat → Nat) (sb ag : Nat) (ad : Nat → Nat → Nat) (σ : zS) (adD : Nat → Nat → Nat) (δ : zS) (x : Int32) (hV : zV σ) : Met l yL_isOut (zww yL_isOut cL_isOut 3 (some .int) [(0, 13, 14, 38)]) (zrx 9 1 6) (va_Pc [.ref sb, .int x] (zBN D cy rf (zSA D cy sb ag ad σ adD δ))) (zqM (some (.int (zans (k_at σ x) (bI (k_old σ x.toNatClampNeg))))) (zSA D cy sb ag ad σ adD δ) (fun _ => False)) 1 6 (fun _ => False) := by
  refine zmetW (by decide) rfl (Nat.le_of_ble_eq_true rfl) rfl (fun p e s m below meth c ls X hml hr hlocks hex hv hl => ?_)
  obtain ⟨hK, hE, hN, hO, hW, hWD⟩ := hv
  obtain ⟨hx, hb, -, -⟩ := id X
  have hl : lv_has ls 3 [(0, .ref sb), (1, .int x)] := hl
  have hS : va_S (fun _ => False) s.heap s.heap [] := va_S.rf
  refine lv_aload_n hx hb dL_isOut_0 rfl (lv_at hl 0 rfl) ?_
  refine lv_iload_n hx hb dL_isOut_1 rfl (lv_at hl 1 rfl) ?_
  refine zcallCV (As := [.int x]) (rest := []) X hml hK hE ⟨hO, hW, hWD⟩ (ctX9_isOut l hl0 D cy rf sb ag ad σ adD δ x hV) zmX9_isOut (by decide) m_893 (zrecv hK hO rfl) ⟨(Nat.le_of_ble_eq_true rfl), (Nat.le_of_ble_eq_true rfl)⟩ ⟨(Nat.le_of_ble_eq_true rfl), (Nat.le_of_ble_eq_true rfl)⟩ rfl hl.1 rfl (Nat.le_of_ble_eq_true rfl) dL_isOut_2 hS (fun _ h => h.elim) (fun E ce q9 H locs hr0 hE0 hsz hfr hS hce hcv hcl => ?_) (fun h0 H locs hG9 hsz hfr hS => ?_)
  · replace hO := zO.kept hO (fun hq => hfr _ hq)
    replace hW := zW.kept hW (fun q hq => hfr q (hW.lt hq))
    replace hWD := zW.kept hWD (fun q hq => hfr q (hWD.lt hq))
    rcases (zr_at σ x) with h0 | h0
    · exact absurd h0 hr0
    · rw [hE0, h0] at hcl
      refine vx_catch (E := "java/lang/IndexOutOfBoundsException") (name := "java/lang/IndexOutOfBoundsException") X.2.2.1 [] (zte 0 13 14 38) [] (hex.trans rfl) (fun _ h => nomatch h) (by decide) (by decide) (X.2.2.2 _ m_812) (zcastX (X.2.2.2 _ m_15)) hce hcv hcl (?_ : W p l e _ s m _ below meth c _ _ _ _ _ (F0 m 14 ls [.ref q9]))
      refine lv_astore_n (lv' := [(2, .ref q9), (0, .ref sb), (1, .int x)]) hx hb dL_isOut_14 rfl hl (by decide) rfl (fun ls hl => ?_)
      refine lv_bipush (v := (-77)) hx hb dL_isOut_15 (by decide) ?_
      exact zo_i hx hb hr hlocks (zans_1 h0).symm ⟨hO, hW, hWD⟩ hS (Nat.le_of_ble_eq_true rfl) (Nat.le_of_ble_eq_true rfl) dL_isOut_17
  · obtain ⟨hO, hW, hWD⟩ := hG9
    refine zb_eq (tgt := 12) hx hb dL_isOut_5 (by decide) (fun b1 => ?_) (fun b1 => ?_)
    · refine lv_iconst (v := 0) hx hb dL_isOut_12 (by decide) ?_
      exact zo_i hx hb hr hlocks (zans_b0 h0 b1).symm ⟨hO, hW, hWD⟩ hS (Nat.le_of_ble_eq_true rfl) (Nat.le_of_ble_eq_true rfl) dL_isOut_13
    · refine lv_iconst (v := 1) hx hb dL_isOut_8 (by decide) ?_
      refine lv_goto (tgt := 13) hx hb dL_isOut_9 (by decide) ?_
      exact zo_i hx hb hr hlocks (zans_b1 h0 b1).symm ⟨hO, hW, hWD⟩ hS (Nat.le_of_ble_eq_true rfl) (Nat.le_of_ble_eq_true rfl) dL_isOut_13
theorem zmL_packings : zmW yL_packings RL cL_packings 3 (some .int) [(0, 5, 6, 38)] 2 := ⟨m_810, m_0, m_811, rfl, by decide, by decide, by decide +kernel⟩
set_option maxRecDepth 100000 in
set_option maxHeartbeats 4000000 in
theorem ctL_packings (l : Launch) (hl0 : l.stackTraces = false) (D : va_G) (cy : Nat → ClassId) (rf : Nat → Nat) (sb ag : Nat) (ad : Nat → Nat → Nat) (σ : zS) (adD : Nat → Nat → Nat) (δ : zS) (x : Int32) (hV : zV σ) : Met l yL_packings (zww yL_packings cL_packings 3 (some .int) [(0, 5, 6, 38)]) (zrx 9 1 6) (va_Pc [.ref sb, .int x] (zBN D cy rf (zSA D cy sb ag ad σ adD δ))) (zqM (some (.int (zans (k_at σ x) (zI σ 109 x.toNatClampNeg)))) (zSA D cy sb ag ad σ adD δ) (fun _ => False)) 1 6 (fun _ => False) := by
  refine zmetW (by decide) rfl (Nat.le_of_ble_eq_true rfl) rfl (fun p e s m below meth c ls X hml hr hlocks hex hv hl => ?_)
  obtain ⟨hK, hE, hN, hO, hW, hWD⟩ := hv
  obtain ⟨hx, hb, -, -⟩ := id X
  have hl : lv_has ls 3 [(0, .ref sb), (1, .int x)] := hl
  have hS : va_S (fun _ => False) s.heap s.heap [] := va_S.rf
  refine lv_aload_n hx hb dL_packings_0 rfl (lv_at hl 0 rfl) ?_
  refine lv_iload_n hx hb dL_packings_1 rfl (lv_at hl 1 rfl) ?_
  refine zcallCV (As := [.int x]) (rest := []) X hml hK hE ⟨hO, hW, hWD⟩ (ctX9_packings l hl0 D cy rf sb ag ad σ adD δ x hV) zmX9_packings (by decide) m_833 (zrecv hK hO rfl) ⟨(Nat.le_of_ble_eq_true rfl), (Nat.le_of_ble_eq_true rfl)⟩ ⟨(Nat.le_of_ble_eq_true rfl), (Nat.le_of_ble_eq_true rfl)⟩ rfl hl.1 rfl (Nat.le_of_ble_eq_true rfl) dL_packings_2 hS (fun _ h => h.elim) (fun E ce q9 H locs hr0 hE0 hsz hfr hS hce hcv hcl => ?_) (fun h0 H locs hG9 hsz hfr hS => ?_)
  · replace hO := zO.kept hO (fun hq => hfr _ hq)
    replace hW := zW.kept hW (fun q hq => hfr q (hW.lt hq))
    replace hWD := zW.kept hWD (fun q hq => hfr q (hWD.lt hq))
    rcases (zr_at σ x) with h0 | h0
    · exact absurd h0 hr0
    · rw [hE0, h0] at hcl
      refine vx_catch (E := "java/lang/IndexOutOfBoundsException") (name := "java/lang/IndexOutOfBoundsException") X.2.2.1 [] (zte 0 5 6 38) [] (hex.trans rfl) (fun _ h => nomatch h) (by decide) (by decide) (X.2.2.2 _ m_812) (zcastX (X.2.2.2 _ m_15)) hce hcv hcl (?_ : W p l e _ s m _ below meth c _ _ _ _ _ (F0 m 6 ls [.ref q9]))
      refine lv_astore_n (lv' := [(2, .ref q9), (0, .ref sb), (1, .int x)]) hx hb dL_packings_6 rfl hl (by decide) rfl (fun ls hl => ?_)
      refine lv_bipush (v := (-77)) hx hb dL_packings_7 (by decide) ?_
      exact zo_i hx hb hr hlocks (zans_1 h0).symm ⟨hO, hW, hWD⟩ hS (Nat.le_of_ble_eq_true rfl) (Nat.le_of_ble_eq_true rfl) dL_packings_9
  · obtain ⟨hO, hW, hWD⟩ := hG9
    exact zo_i hx hb hr hlocks (zans_0 h0).symm ⟨hO, hW, hWD⟩ hS (Nat.le_of_ble_eq_true rfl) (Nat.le_of_ble_eq_true rfl) dL_packings_5
theorem zmL_packingOf : zmW yL_packingOf RL cL_packingOf 5 (some .int) [(0, 7, 8, 38), (0, 7, 13, 20)] 4 := ⟨m_1117, m_0, m_1118, rfl, by decide, by decide, by decide +kernel⟩
set_option maxRecDepth 100000 in
set_option maxHeartbeats 4000000 in
theorem ctL_packingOf (l : Launch) (hl0 : l.stackTraces = false) (D : va_G) (cy : Nat → ClassId) (rf : Nat → Nat) (sb ag : Nat) (ad : Nat → Nat → Nat) (σ : zS) (adD : Nat → Nat → Nat) (δ : zS) (x : Int32) (j : Int32) (w : Int32) (hV : zV σ) : Met l yL_packingOf (zww yL_packingOf cL_packingOf 5 (some .int) [(0, 7, 8, 38), (0, 7, 13, 20)]) (zrx 9 2 12) (va_Pc [.ref sb, .int x, .int j, .int w] (zBN D cy rf (zSA D cy sb ag ad σ adD δ))) (zqM (some (.int (zans (k_pkr σ x j w) (k_look σ x j w)))) (zSA D cy sb ag ad σ adD δ) (fun _ => False)) 2 12 (fun _ => False) := by
  refine zmetW (by decide) rfl (Nat.le_of_ble_eq_true rfl) rfl (fun p e s m below meth c ls X hml hr hlocks hex hv hl => ?_)
  obtain ⟨hK, hE, hN, hO, hW, hWD⟩ := hv
  obtain ⟨hx, hb, -, -⟩ := id X
  have hl : lv_has ls 5 [(0, .ref sb), (1, .int x), (2, .int j), (3, .int w)] := hl
  have hS : va_S (fun _ => False) s.heap s.heap [] := va_S.rf
  refine lv_aload_n hx hb dL_packingOf_0 rfl (lv_at hl 0 rfl) ?_
  refine lv_iload_n hx hb dL_packingOf_1 rfl (lv_at hl 1 rfl) ?_
  refine lv_iload_n hx hb dL_packingOf_2 rfl (lv_at hl 2 rfl) ?_
  refine lv_iload_n hx hb dL_packingOf_3 rfl (lv_at hl 3 rfl) ?_
  refine zcallCV (As := [.int x, .int j, .int w]) (rest := []) X hml hK hE ⟨hO, hW, hWD⟩ (ctX9_packingOf l hl0 D cy rf sb ag ad σ adD δ x j w hV) zmX9_packingOf (by decide) m_1119 (zrecv hK hO rfl) ⟨(Nat.le_of_ble_eq_true rfl), (Nat.le_of_ble_eq_true rfl)⟩ ⟨(Nat.le_of_ble_eq_true rfl), (Nat.le_of_ble_eq_true rfl)⟩ rfl hl.1 rfl (Nat.le_of_ble_eq_true rfl) dL_packingOf_4 hS (fun _ h => h.elim) (fun E ce q9 H locs hr0 hE0 hsz hfr hS hce hcv hcl => ?_) (fun h0 H locs hG9 hsz hfr hS => ?_)
  · replace hO := zO.kept hO (fun hq => hfr _ hq)
    replace hW := zW.kept hW (fun q hq => hfr q (hW.lt hq))
    replace hWD := zW.kept hWD (fun q hq => hfr q (hWD.lt hq))
    rcases (zr_pkr σ x j w) with h0 | h0 | h0
    · exact absurd h0 hr0
    · rw [hE0, h0] at hcl
      refine vx_catch (E := "java/lang/IndexOutOfBoundsException") (name := "java/lang/IndexOutOfBoundsException") X.2.2.1 [] (zte 0 7 8 38) [zte 0 7 13 20] (hex.trans rfl) (fun _ h => nomatch h) (by decide) (by decide) (X.2.2.2 _ m_812) (zcastX (X.2.2.2 _ m_15)) hce hcv hcl (?_ : W p l e _ s m _ below meth c _ _ _ _ _ (F0 m 8 ls [.ref q9]))
      refine lv_astore (lv' := [(4, .ref q9), (0, .ref sb), (1, .int x), (2, .int j), (3, .int w)]) hx hb dL_packingOf_8 hl (by decide) rfl (fun ls hl => ?_)
      refine lv_bipush (v := (-77)) hx hb dL_packingOf_10 (by decide) ?_
      exact zo_i hx hb hr hlocks (zans_1 h0).symm ⟨hO, hW, hWD⟩ hS (Nat.le_of_ble_eq_true rfl) (Nat.le_of_ble_eq_true rfl) dL_packingOf_12
    · rw [hE0, h0] at hcl
      refine vx_catch (E := "java/lang/IllegalArgumentException") (name := "java/lang/IllegalArgumentException") X.2.2.1 [zte 0 7 8 38] (zte 0 7 13 20) [] (hex.trans rfl) (List.forall_mem_cons.mpr ⟨Or.inr ⟨by decide, "java/lang/IndexOutOfBoundsException", X.2.2.2 _ m_812, hN 2 1 (by decide) (by decide) (by decide) (by decide) (by decide)⟩, (fun _ h => nomatch h)⟩) (by decide) (by decide) (X.2.2.2 _ m_647) (zcastX (X.2.2.2 _ m_16)) hce hcv hcl (?_ : W p l e _ s m _ below meth c _ _ _ _ _ (F0 m 13 ls [.ref q9]))
      refine lv_astore (lv' := [(4, .ref q9), (0, .ref sb), (1, .int x), (2, .int j), (3, .int w)]) hx hb dL_packingOf_13 hl (by decide) rfl (fun ls hl => ?_)
      refine lv_bipush (v := (-78)) hx hb dL_packingOf_15 (by decide) ?_
      exact zo_i hx hb hr hlocks (zans_2 h0).symm ⟨hO, hW, hWD⟩ hS (Nat.le_of_ble_eq_true rfl) (Nat.le_of_ble_eq_true rfl) dL_packingOf_17
  · obtain ⟨hO, hW, hWD⟩ := hG9
    exact zo_i hx hb hr hlocks (zans_0 h0).symm ⟨hO, hW, hWD⟩ hS (Nat.le_of_ble_eq_true rfl) (Nat.le_of_ble_eq_true rfl) dL_packingOf_7
theorem zmL_jumps : zmW yL_jumps RL cL_jumps 3 (some .int) [(0, 5, 6, 38)] 2 := ⟨m_1099, m_0, m_1100, rfl, by decide, by decide, by decide +kernel⟩
set_option maxRecDepth 100000 in
set_option maxHeartbeats 4000000 in
theorem ctL_jumps (l : Launch) (hl0 : l.stackTraces = false) (D : va_G) (cy : Nat → ClassId) (rf : Nat → Nat) (sb ag : Nat) (ad : Nat → Nat → Nat) (σ : zS) (adD : Nat → Nat → Nat) (δ : zS) (x : Int32) (hV : zV σ) : Met l yL_jumps (zww yL_jumps cL_jumps 3 (some .int) [(0, 5, 6, 38)]) (zrx 9 1 6) (va_Pc [.ref sb, .int x] (zBN D cy rf (zSA D cy sb ag ad σ adD δ))) (zqM (some (.int (zans (k_at σ x) (zI σ 113 x.toNatClampNeg)))) (zSA D cy sb ag ad σ adD δ) (fun _ => False)) 1 6 (fun _ => False) := by
  refine zmetW (by decide) rfl (Nat.le_of_ble_eq_true rfl) rfl (fun p e s m below meth c ls X hml hr hlocks hex hv hl => ?_)
  obtain ⟨hK, hE, hN, hO, hW, hWD⟩ := hv
  obtain ⟨hx, hb, -, -⟩ := id X
  have hl : lv_has ls 3 [(0, .ref sb), (1, .int x)] := hl
  have hS : va_S (fun _ => False) s.heap s.heap [] := va_S.rf
  refine lv_aload_n hx hb dL_jumps_0 rfl (lv_at hl 0 rfl) ?_
  refine lv_iload_n hx hb dL_jumps_1 rfl (lv_at hl 1 rfl) ?_
  refine zcallCV (As := [.int x]) (rest := []) X hml hK hE ⟨hO, hW, hWD⟩ (ctX9_jumps l hl0 D cy rf sb ag ad σ adD δ x hV) zmX9_jumps (by decide) m_1101 (zrecv hK hO rfl) ⟨(Nat.le_of_ble_eq_true rfl), (Nat.le_of_ble_eq_true rfl)⟩ ⟨(Nat.le_of_ble_eq_true rfl), (Nat.le_of_ble_eq_true rfl)⟩ rfl hl.1 rfl (Nat.le_of_ble_eq_true rfl) dL_jumps_2 hS (fun _ h => h.elim) (fun E ce q9 H locs hr0 hE0 hsz hfr hS hce hcv hcl => ?_) (fun h0 H locs hG9 hsz hfr hS => ?_)
  · replace hO := zO.kept hO (fun hq => hfr _ hq)
    replace hW := zW.kept hW (fun q hq => hfr q (hW.lt hq))
    replace hWD := zW.kept hWD (fun q hq => hfr q (hWD.lt hq))
    rcases (zr_at σ x) with h0 | h0
    · exact absurd h0 hr0
    · rw [hE0, h0] at hcl
      refine vx_catch (E := "java/lang/IndexOutOfBoundsException") (name := "java/lang/IndexOutOfBoundsException") X.2.2.1 [] (zte 0 5 6 38) [] (hex.trans rfl) (fun _ h => nomatch h) (by decide) (by decide) (X.2.2.2 _ m_812) (zcastX (X.2.2.2 _ m_15)) hce hcv hcl (?_ : W p l e _ s m _ below meth c _ _ _ _ _ (F0 m 6 ls [.ref q9]))
      refine lv_astore_n (lv' := [(2, .ref q9), (0, .ref sb), (1, .int x)]) hx hb dL_jumps_6 rfl hl (by decide) rfl (fun ls hl => ?_)
      refine lv_bipush (v := (-77)) hx hb dL_jumps_7 (by decide) ?_
      exact zo_i hx hb hr hlocks (zans_1 h0).symm ⟨hO, hW, hWD⟩ hS (Nat.le_of_ble_eq_true rfl) (Nat.le_of_ble_eq_true rfl) dL_jumps_9
  · obtain ⟨hO, hW, hWD⟩ := hG9
    exact zo_i hx hb hr hlocks (zans_0 h0).symm ⟨hO, hW, hWD⟩ hS (Nat.le_of_ble_eq_true rfl) (Nat.le_of_ble_eq_true rfl) dL_jumps_5
theorem zmL_sharers : zmW yL_sharers RL cL_sharers 3 (some .int) [(0, 5, 6, 38)] 2 := ⟨m_1106, m_0, m_1107, rfl, by decide, by decide, by decide +kernel⟩
set_option maxRecDepth 100000 in
set_option maxHeartbeats 4000000 in
theorem ctL_sharers (l : Launch) (hl0 : l.stackTraces = false) (D : va_G) (cy : Nat → ClassId) (rf : Nat → Nat) (sb ag : Nat) (ad : Nat → Nat → Nat) (σ : zS) (adD : Nat → Nat → Nat) (δ : zS) (x : Int32) (hV : zV σ) : Met l yL_sharers (zww yL_sharers cL_sharers 3 (some .int) [(0, 5, 6, 38)]) (zrx 9 1 6) (va_Pc [.ref sb, .int x] (zBN D cy rf (zSA D cy sb ag ad σ adD δ))) (zqM (some (.int (zans (k_at σ x) (nI (k_shar σ x.toNatClampNeg))))) (zSA D cy sb ag ad σ adD δ) (fun _ => False)) 1 6 (fun _ => False) := by
  refine zmetW (by decide) rfl (Nat.le_of_ble_eq_true rfl) rfl (fun p e s m below meth c ls X hml hr hlocks hex hv hl => ?_)
  obtain ⟨hK, hE, hN, hO, hW, hWD⟩ := hv
  obtain ⟨hx, hb, -, -⟩ := id X
  have hl : lv_has ls 3 [(0, .ref sb), (1, .int x)] := hl
  have hS : va_S (fun _ => False) s.heap s.heap [] := va_S.rf
  refine lv_aload_n hx hb dL_sharers_0 rfl (lv_at hl 0 rfl) ?_
  refine lv_iload_n hx hb dL_sharers_1 rfl (lv_at hl 1 rfl) ?_
  refine zcallCV (As := [.int x]) (rest := []) X hml hK hE ⟨hO, hW, hWD⟩ (ctX9_sharers l hl0 D cy rf sb ag ad σ adD δ x hV) zmX9_sharers (by decide) m_1108 (zrecv hK hO rfl) ⟨(Nat.le_of_ble_eq_true rfl), (Nat.le_of_ble_eq_true rfl)⟩ ⟨(Nat.le_of_ble_eq_true rfl), (Nat.le_of_ble_eq_true rfl)⟩ rfl hl.1 rfl (Nat.le_of_ble_eq_true rfl) dL_sharers_2 hS (fun _ h => h.elim) (fun E ce q9 H locs hr0 hE0 hsz hfr hS hce hcv hcl => ?_) (fun h0 H locs hG9 hsz hfr hS => ?_)
  · replace hO := zO.kept hO (fun hq => hfr _ hq)
    replace hW := zW.kept hW (fun q hq => hfr q (hW.lt hq))
    replace hWD := zW.kept hWD (fun q hq => hfr q (hWD.lt hq))
    rcases (zr_at σ x) with h0 | h0
    · exact absurd h0 hr0
    · rw [hE0, h0] at hcl
      refine vx_catch (E := "java/lang/IndexOutOfBoundsException") (name := "java/lang/IndexOutOfBoundsException") X.2.2.1 [] (zte 0 5 6 38) [] (hex.trans rfl) (fun _ h => nomatch h) (by decide) (by decide) (X.2.2.2 _ m_812) (zcastX (X.2.2.2 _ m_15)) hce hcv hcl (?_ : W p l e _ s m _ below meth c _ _ _ _ _ (F0 m 6 ls [.ref q9]))
      refine lv_astore_n (lv' := [(2, .ref q9), (0, .ref sb), (1, .int x)]) hx hb dL_sharers_6 rfl hl (by decide) rfl (fun ls hl => ?_)
      refine lv_bipush (v := (-77)) hx hb dL_sharers_7 (by decide) ?_
      exact zo_i hx hb hr hlocks (zans_1 h0).symm ⟨hO, hW, hWD⟩ hS (Nat.le_of_ble_eq_true rfl) (Nat.le_of_ble_eq_true rfl) dL_sharers_9
  · obtain ⟨hO, hW, hWD⟩ := hG9
    exact zo_i hx hb hr hlocks (zans_0 h0).symm ⟨hO, hW, hWD⟩ hS (Nat.le_of_ble_eq_true rfl) (Nat.le_of_ble_eq_true rfl) dL_sharers_5
theorem zmL_next : zmW yL_next RL cL_next 2 (some .int) [(0, 4, 5, 119)] 1 := ⟨m_1164, m_0, m_1165, rfl, by decide, by decide, by decide +kernel⟩
set_option maxRecDepth 100000 in
set_option maxHeartbeats 4000000 in
theorem ctL_next (l : Launch) (hl0 : l.stackTraces = false) (D : va_G) (cy : Nat → ClassId) (rf : Nat → Nat) (sb ag : Nat) (ad : Nat → Nat → Nat) (σ : zS) (adD : Nat → Nat → Nat) (δ : zS) (hV : zV σ) : Met l yL_next (zww yL_next cL_next 2 (some .int) [(0, 4, 5, 119)]) (zrx 9 1 6) (va_Pc [.ref sb] (zBN D cy rf (zSA D cy sb ag ad σ adD δ))) (zqM (some (.int (zans (k_nxr σ) (k_nx σ)))) (zSA D cy sb ag ad σ adD δ) (fun _ => False)) 1 6 (fun _ => False) := by
  refine zmetW (by decide) rfl (Nat.le_of_ble_eq_true rfl) rfl (fun p e s m below meth c ls X hml hr hlocks hex hv hl => ?_)
  obtain ⟨hK, hE, hN, hO, hW, hWD⟩ := hv
  obtain ⟨hx, hb, -, -⟩ := id X
  have hl : lv_has ls 2 [(0, .ref sb)] := hl
  have hS : va_S (fun _ => False) s.heap s.heap [] := va_S.rf
  refine lv_aload_n hx hb dL_next_0 rfl (lv_at hl 0 rfl) ?_
  refine zcallCV (As := []) (rest := []) X hml hK hE ⟨hO, hW, hWD⟩ (ctX9_next l hl0 D cy rf sb ag ad σ adD δ hV) zmX9_next (by decide) m_1167 (zrecv hK hO rfl) ⟨(Nat.le_of_ble_eq_true rfl), (Nat.le_of_ble_eq_true rfl)⟩ ⟨(Nat.le_of_ble_eq_true rfl), (Nat.le_of_ble_eq_true rfl)⟩ rfl hl.1 rfl (Nat.le_of_ble_eq_true rfl) dL_next_1 hS (fun _ h => h.elim) (fun E ce q9 H locs hr0 hE0 hsz hfr hS hce hcv hcl => ?_) (fun h0 H locs hG9 hsz hfr hS => ?_)
  · replace hO := zO.kept hO (fun hq => hfr _ hq)
    replace hW := zW.kept hW (fun q hq => hfr q (hW.lt hq))
    replace hWD := zW.kept hWD (fun q hq => hfr q (hWD.lt hq))
    rcases (zr_nx σ) with h0 | h0
    · exact absurd h0 hr0
    · rw [hE0, h0] at hcl
      refine vx_catch (E := "java/util/NoSuchElementException") (name := "java/util/NoSuchElementException") X.2.2.1 [] (zte 0 4 5 119) [] (hex.trans rfl) (fun _ h => nomatch h) (by decide) (by decide) (X.2.2.2 _ m_1166) (zcastX (X.2.2.2 _ m_27)) hce hcv hcl (?_ : W p l e _ s m _ below meth c _ _ _ _ _ (F0 m 5 ls [.ref q9]))
      refine lv_astore_n (lv' := [(1, .ref q9), (0, .ref sb)]) hx hb dL_next_5 rfl hl (by decide) rfl (fun ls hl => ?_)
      refine lv_bipush (v := (-75)) hx hb dL_next_6 (by decide) ?_
      exact zo_i hx hb hr hlocks (zans_5 h0).symm ⟨hO, hW, hWD⟩ hS (Nat.le_of_ble_eq_true rfl) (Nat.le_of_ble_eq_true rfl) dL_next_8
  · obtain ⟨hO, hW, hWD⟩ := hG9
    exact zo_i hx hb hr hlocks (zans_0 h0).symm ⟨hO, hW, hWD⟩ hS (Nat.le_of_ble_eq_true rfl) (Nat.le_of_ble_eq_true rfl) dL_next_4
