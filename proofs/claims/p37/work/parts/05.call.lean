/-! CONTRACTS AND CALLS: a method's words are its own code and all that the tables say -/
def zw (y : MethodName) (code : ByteArray) (n : Nat) (ret : Option FieldType) : List Cond := Cond.code y code n ret :: lw_all
def zrm (d : Nat) : Room := { frames := d, cells := 0, slots := 0, locals := 40 * d }
/-- what the tables say of an instance method, of a static one -/
def zmV (y : MethodName) (C : String) (code : ByteArray) (n : Nat) (ret : Option FieldType) (na : Nat) : Prop := Cond.instanceMethod y ∈ lw_all ∧ Cond.selects C y y ∈ lw_all ∧ Cond.initialized C ∈ lw_all ∧ Cond.code y code n ret ∈ lw_all ∧ y.cls = C ∧ C ≠ "java/lang/invoke/MethodHandle" ∧ C ≠ "java/lang/invoke/VarHandle" ∧ (parseMethodDescriptor y.desc).map (fun d => d.parameters.length) = some na
def zmS (y : MethodName) (C : String) (code : ByteArray) (n : Nat) (ret : Option FieldType) (na : Nat) : Prop := Cond.static y ∈ lw_all ∧ Cond.initialized C ∈ lw_all ∧ Cond.code y code n ret ∈ lw_all ∧ y.cls = C ∧ C ≠ "java/lang/invoke/MethodHandle" ∧ C ≠ "java/lang/invoke/VarHandle" ∧ (parseMethodDescriptor y.desc).map (fun d => d.parameters.length) = some na
/-- a method's start: the tables, and what the heap holds -/
def zB (D : va_G) (cy : Nat → ClassId) (G : Heap → Prop) : State → Prop := fun U => zK D cy U ∧ G U.heap
/-- an answer, the heap as it was -/
def zqR (v : Value) : Array Value → State → Outcome → State → Prop := fun _ st o t => o = .returned (some v) ∧ t.heap = st.heap
/-- an answer, and what the heap holds then -/
def zqM (v : Option Value) (G : Heap → Prop) (A : Nat → Prop) : Array Value → State → Outcome → State → Prop := fun _ st o t => o = .returned v ∧ G t.heap ∧ va_F A st t
def bI (b : Bool) : Int32 := if b = true then 1 else 0
theorem bI_t : bI true = 1 := rfl
theorem bI_f : bI false = 0 := rfl
theorem bI_0 {b : Bool} (h : bI b = 0) : b = false := by cases b <;> first | rfl | exact absurd h (by decide)
theorem bI_1 {b : Bool} (h : ¬ bI b = 0) : b = true := by cases b <;> first | rfl | exact absurd rfl h
theorem bI_n (b : Bool) : narrow .boolean (.int (bI b)) = .int (bI b) := by cases b <;> rfl
theorem bI_fits (b : Bool) : fits .boolean (.int (bI b)) = true := by cases b <;> rfl
theorem zblind {D : va_G} {cy : Nat → ClassId} {G : Heap → Prop} (U : State) (g : JFrame) (mk : MethodId) (a : Array Value) (q : zB D cy G U) : zB D cy G (U.calling g mk a) := ⟨zK.moved (u := U) (U := U.calling g mk a) (Vm.Alike.refl U.vm) q.1, q.2⟩
section ZC
variable {p : Program} {l : Launch} {e : Env} {R : Room} {s : State} {m : MethodId} {args : Array Value} {below : List Frame} {meth : Method} {c : Code} {H : Heap} {locs : List Loc} {cells slots : Nat} {Q : State → Prop} {cc : ByteArray} {pc : Nat} {ls : Array Slot} {rest : List Value} {D : va_G} {cy : Nat → ClassId} {own C : String} {idx d n na nL b : Nat} {A A1 : Nat → Prop} {H0 : Heap} {y : MethodName} {code : ByteArray} {ret : Option FieldType} {G G' : Heap → Prop} {As st0 : List Value}
theorem zcwB (ht : ∀ w ∈ lw_all, w.before args s = true) (hini : Cond.initialized y.cls ∈ lw_all) (hco : Cond.code y code n ret ∈ lw_all) (hd : y.cls ≠ "java/lang/invoke/MethodHandle" ∧ y.cls ≠ "java/lang/invoke/VarHandle" ∧ (parseMethodDescriptor y.desc).map (fun d => d.parameters.length) = some na) (hl : Cond.methodLink own idx y ∈ lw_all) (hR : d + 1 ≤ R.frames ∧ 40 * (d + 1) ≤ R.locals) (hn : n ≤ 21) : CallB R s args own idx y code n ret (zw y code n ret) (zrm d) 0 0 na := by
  refine callB_of na ht (fun w hw => ?_) rfl rfl rfl (ht _ hini) (ht _ hl) hd ⟨hR.1, ?_⟩
  · rcases List.mem_cons.mp hw with rfl | hw
    · exact ⟨hco, lw_good hco⟩
    · exact ⟨hw, lw_good hw⟩
  · show 8 + (n + 11) + 40 * d ≤ R.locals
    omega
theorem zcwV (ht : ∀ w ∈ lw_all, w.before args s = true) (hm : zmV y C code n ret na) (hl : Cond.methodLink own idx y ∈ lw_all) (hR : d + 1 ≤ R.frames ∧ 40 * (d + 1) ≤ R.locals) (hn : n ≤ 21) : CallW R s args own C idx y code n ret (zw y code n ret) (zrm d) 0 0 na := by
  obtain ⟨h1, h2, h3, h4, rfl, h6, h7, h8⟩ := hm
  exact ⟨zcwB ht h3 h4 ⟨h6, h7, h8⟩ hl hR hn, ht _ h1, ht _ h2⟩
theorem zcwS (ht : ∀ w ∈ lw_all, w.before args s = true) (hm : zmS y C code n ret na) (hl : Cond.methodLink own idx y ∈ lw_all) (hR : d + 1 ≤ R.frames ∧ 40 * (d + 1) ≤ R.locals) (hn : n ≤ 21) : CallB R s args own idx y code n ret (zw y code n ret) (zrm d) 0 0 na ∧ (Cond.static y).before args s = true := by
  obtain ⟨h1, h3, h4, rfl, h6, h7, h8⟩ := hm
  exact ⟨zcwB ht h3 h4 ⟨h6, h7, h8⟩ hl hR hn, ht _ h1⟩
theorem zrecv {a ci : Nat} {fs : List Value} {q : vw_C} (hK : zK D cy s) (hA : va_at D zcl (a, .inr (ci, fs)) H) (hc : zcl[ci]? = some q) : ∃ cell : Cell, H[a]? = some cell ∧ cell.vm.isStatics = false ∧ s.vm.findClass q.1 = some cell.cls := va_recv (D := D) (ws := [(a, .inr (ci, fs))]) hK (fun j q hj => by
    rcases j with _ | j
    · cases hj; exact hA
    · simp at hj) hc (q0 := 0) rfl
theorem zpreV (hK : zK D cy s) (hG : G H) (hr : ∃ cell : Cell, H[b]? = some cell ∧ cell.vm.isStatics = false ∧ s.vm.findClass C = some cell.cls) : PreV s H C b (va_Pc (.ref b :: As) (zB D cy G)) As := ⟨fun a U g mk q => ⟨q.1, zblind U g mk a q.2⟩, hr, fun U hU hW => ⟨rfl, zK.moved hW.alike hK, by rw [hU]; exact hG⟩⟩
theorem zpreS (hK : zK D cy s) (hG : G H) : PreS s H (va_Pc As (zB D cy G)) As := ⟨fun a U g mk q => ⟨q.1, zblind U g mk a q.2⟩, fun U hU hW => ⟨rfl, zK.moved hW.alike hK, by rw [hU]; exact hG⟩⟩
theorem zcR {v : Value} {a : Array Value} {g : JFrame} (hr : CallRun p l e R s m args below meth c H locs cells slots 0 0 g rest (zqR v a) (fun _ => False)) (kk : W p l e R s m args below meth c H locs cells slots Q { g with pc := g.pc + 3, stack := v :: rest }) : W p l e R s m args below meth c H locs cells slots Q g := by
  intro T hT X
  obtain ⟨v', st₀, t, T', L, h0, X', hL, e1, ⟨hv, hh⟩, st⟩ := hr T hT X
  cases hv
  obtain ⟨t2, a1, b1⟩ := kk T' (by rw [e1, hh, h0]) (Stand.forget X' (fun q h => (hL q h).elim))
  exact ⟨t2, st t2 a1, b1⟩
theorem zcM {v : Option Value} {a : Array Value} {g : JFrame} (hr : CallRun p l e R s m args below meth c H locs cells slots 0 0 g rest (zqM v G' A1 a) A1) (hS : va_S A H0 H locs) (hA : ∀ q, A1 q → A q)
    (kk : ∀ (H1 : Heap) (locs1 : List Loc), G' H1 → H.size ≤ H1.size → (∀ q, q < H.size → ¬ A1 q → H1[q]? = H[q]?) → va_S A H0 H1 locs1 → W p l e R s m args below meth c H1 locs1 cells slots Q { g with pc := g.pc + 3, stack := v.toList ++ rest }) : W p l e R s m args below meth c H locs cells slots Q g := by
  intro T hT X
  obtain ⟨v', st₀, t, T', L, h0, X', hL, e1, ⟨hv, hG, hz, hk⟩, st⟩ := hr T hT X
  cases hv
  rw [h0] at hz hk
  have hz' : H.size ≤ T'.heap.size := by rw [e1]; exact hz
  have hk' : ∀ q, q < H.size → ¬ A1 q → T'.heap[q]? = H[q]? := fun q h1 h2 => by rw [e1]; exact hk q h1 h2
  obtain ⟨t2, a1, b1⟩ := kk T'.heap (locs ++ L) (by rw [e1]; exact hG) hz' hk'
    ⟨Nat.le_trans hS.1 hz', fun q h1 h2 => (hk' q (Nat.lt_of_lt_of_le h1 hS.1) (fun z => h2 (hA q z))).trans (hS.2.1 q h1 h2), fun q hq => by
      rcases List.mem_append.mp hq with h | h
      · exact hS.2.2 q h
      · exact hA _ (hL q h)⟩ T' rfl X'
  exact ⟨t2, st t2 a1, b1⟩
theorem zcallRV {v : Value} (X : zX p m c s args own cc) (hml : c.maxLocals = nL) (hK : zK D cy s) (hG : G H) (hM : Met l y (zw y code n ret) (zrm d) (va_Pc (.ref b :: As) (zB D cy G)) (zqR v) 0 0 (fun _ => False)) (hm : zmV y C code n ret na) (hn : n ≤ 21) (hl : Cond.methodLink own idx y ∈ lw_all) (hr : ∃ cell : Cell, H[b]? = some cell ∧ cell.vm.isStatics = false ∧ s.vm.findClass C = some cell.cls) (hR : d + 1 ≤ R.frames ∧ 40 * (d + 1) ≤ R.locals) (hcs : cells ≤ R.cells ∧ slots ≤ R.slots) (hna : As.length = na) (hls : ls.size = nL) (hst : st0 = As.reverse ++ .ref b :: rest) (hrm : (rest.map fun v => v.category).sum ≤ 8) (hd : decode cc pc = .ok (.invokevirtual idx, 3))
    (kk : W p l e R s m args below meth c H locs cells slots Q (F0 m (pc + 3) ls (v :: rest))) : W p l e R s m args below meth c H locs cells slots Q (F0 m pc ls st0) :=
  zcR (W.runV ⟨X.1, X.2.1, hml, X.2.2.1, X.2.2.2⟩ hM (zcwV X.2.2.2 hm hl hR hn) (zpreV hK hG hr) rfl hna hls hst (lv_room hrm) hd hcs) kk
theorem zcallRS {v : Value} (X : zX p m c s args own cc) (hml : c.maxLocals = nL) (hK : zK D cy s) (hG : G H) (hM : Met l y (zw y code n ret) (zrm d) (va_Pc As (zB D cy G)) (zqR v) 0 0 (fun _ => False)) (hm : zmS y C code n ret na) (hn : n ≤ 21) (hl : Cond.methodLink own idx y ∈ lw_all) (hR : d + 1 ≤ R.frames ∧ 40 * (d + 1) ≤ R.locals) (hcs : cells ≤ R.cells ∧ slots ≤ R.slots) (hna : As.length = na) (hls : ls.size = nL) (hst : st0 = As.reverse ++ rest) (hrm : (rest.map fun v => v.category).sum ≤ 8) (hd : decode cc pc = .ok (.invokestatic idx, 3))
    (kk : W p l e R s m args below meth c H locs cells slots Q (F0 m (pc + 3) ls (v :: rest))) : W p l e R s m args below meth c H locs cells slots Q (F0 m pc ls st0) :=
  zcR (W.runS ⟨X.1, X.2.1, hml, X.2.2.1, X.2.2.2⟩ hM (zcwS X.2.2.2 hm hl hR hn) (zpreS hK hG) rfl hna hls hst (lv_room hrm) hd hcs) kk
theorem zcallMV {v : Option Value} (X : zX p m c s args own cc) (hml : c.maxLocals = nL) (hK : zK D cy s) (hG : G H) (hM : Met l y (zw y code n ret) (zrm d) (va_Pc (.ref b :: As) (zB D cy G)) (zqM v G' A1) 0 0 A1) (hm : zmV y C code n ret na) (hn : n ≤ 21) (hl : Cond.methodLink own idx y ∈ lw_all) (hr : ∃ cell : Cell, H[b]? = some cell ∧ cell.vm.isStatics = false ∧ s.vm.findClass C = some cell.cls) (hR : d + 1 ≤ R.frames ∧ 40 * (d + 1) ≤ R.locals) (hcs : cells ≤ R.cells ∧ slots ≤ R.slots) (hna : As.length = na) (hls : ls.size = nL) (hst : st0 = As.reverse ++ .ref b :: rest) (hrm : (rest.map fun v => v.category).sum ≤ 8) (hd : decode cc pc = .ok (.invokevirtual idx, 3)) (hS : va_S A H0 H locs) (hA : ∀ q, A1 q → A q)
    (kk : ∀ (H1 : Heap) (locs1 : List Loc), G' H1 → H.size ≤ H1.size → (∀ q, q < H.size → ¬ A1 q → H1[q]? = H[q]?) → va_S A H0 H1 locs1 → W p l e R s m args below meth c H1 locs1 cells slots Q (F0 m (pc + 3) ls (v.toList ++ rest))) : W p l e R s m args below meth c H locs cells slots Q (F0 m pc ls st0) :=
  zcM (W.runV ⟨X.1, X.2.1, hml, X.2.2.1, X.2.2.2⟩ hM (zcwV X.2.2.2 hm hl hR hn) (zpreV hK hG hr) rfl hna hls hst (lv_room hrm) hd hcs) hS hA kk
/-- a method's contract by its body's walk -/
theorem zmet {av : List Value} {B : State → Prop} {Qc : Array Value → State → Outcome → State → Prop} {free : Addr → Prop} {lv : List (Nat × Value)} (hy : plainName y.cls = true) (hC : y.cls = C) (hn : (lg_sl av).length ≤ n) (hlv : lv_args 0 av = lv)
    (body : ∀ (p : Program) (e : Env) (s : State) (m : MethodId) (below : List Frame) (meth : Method) (c : Code) (ls : Array Slot), zX p m c s av.toArray C code → c.maxLocals = n → meth.sig.returnType = ret → meth.locks = false → B s → lv_has ls n lv → W p l e (zrm d) s m av.toArray below meth c s.heap [] 0 0 (MQ below Qc av.toArray s 0 0 free) (F0 m 0 ls [])) : Met l y (zw y code n ret) (zrm d) (va_Pc av B) Qc 0 0 free := by
  subst hC
  refine Met.ofW (cc := code) (maxL := n) (ret := ret) hy rfl ?_
  intro p e s m args below meth c s₁ Bd hml hv
  obtain ⟨rfl, hB⟩ := hv
  have hts := atoms_spec (ws := zw y code n ret) Bd.pre
  have hl := lv_entry av (n := n) hn
  rw [hlv] at hl
  rw [lg_entry_eq]
  exact body p e s m below meth c _ ⟨Bd.exec, Bd.bytes, findClass_of_methodNamed Bd.named, fun w h => hts w (List.mem_cons_of_mem _ h)⟩ hml Bd.returns Bd.notSynchronized hB hl
/-! ends -/
theorem ze_i {v w : Int32} {free : Addr → Prop} (hx : p.tables.exec = Jvm.exec) (hb : c.code = cc) (hr : meth.sig.returnType = some .int) (hlocks : meth.locks = false) (h : w = v) (hd : decode cc pc = .ok (.ireturn, 1)) : W p l e R s m args below meth c s.heap [] 0 0 (MQ below (zqR (.int v)) args s 0 0 free) (F0 m pc ls [.int w]) := by
  subst h
  exact W.iret (cc := cc) hx hb hr (fun t ht hW => ⟨rfl, ht⟩) (fun q hq => absurd hq List.not_mem_nil) hd hlocks
theorem ze_z {b : Bool} {w : Int32} {free : Addr → Prop} (hx : p.tables.exec = Jvm.exec) (hb : c.code = cc) (hr : meth.sig.returnType = some .boolean) (hlocks : meth.locks = false) (h : w = bI b) (hd : decode cc pc = .ok (.ireturn, 1)) : W p l e R s m args below meth c s.heap [] 0 0 (MQ below (zqR (.int (bI b))) args s 0 0 free) (F0 m pc ls [.int w]) := by
  subst h
  exact W.zret (cc := cc) hx hb hr (bI_n b) (fun t ht hW => ⟨rfl, ht⟩) (fun q hq => absurd hq List.not_mem_nil) hd hlocks
theorem ze_l {v w : Int64} {free : Addr → Prop} (hx : p.tables.exec = Jvm.exec) (hb : c.code = cc) (hr : meth.sig.returnType = some .long) (hlocks : meth.locks = false) (h : w = v) (hd : decode cc pc = .ok (.lreturn, 1)) : W p l e R s m args below meth c s.heap [] 0 0 (MQ below (zqR (.long v)) args s 0 0 free) (F0 m pc ls [.long w]) := by
  subst h
  exact W.lret (cc := cc) hx hb hr (fun t ht hW => ⟨rfl, ht⟩) (fun q hq => absurd hq List.not_mem_nil) hd hlocks
theorem ze_a {v w : Nat} {C : String} {free : Addr → Prop} (hx : p.tables.exec = Jvm.exec) (hb : c.code = cc) (hr : meth.sig.returnType = some (.object C)) (hlocks : meth.locks = false) (h : w = v) (hd : decode cc pc = .ok (.areturn, 1)) : W p l e R s m args below meth c s.heap [] 0 0 (MQ below (zqR (.ref v)) args s 0 0 free) (F0 m pc ls [.ref w]) := by
  subst h
  exact W.aret (cc := cc) hx hb hr (Or.inl ⟨_, rfl⟩) (Or.inr ⟨_, rfl⟩) (fun t ht hW => ⟨rfl, ht⟩) (fun q hq => absurd hq List.not_mem_nil) hd hlocks
theorem zm_v (hx : p.tables.exec = Jvm.exec) (hb : c.code = cc) (hr : meth.sig.returnType = none) (hlocks : meth.locks = false) (hG : G' H) (hS : va_S A s.heap H locs) (hd : decode cc pc = .ok (.return_, 1)) : W p l e R s m args below meth c H locs 0 0 (MQ below (zqM none G' A) args s 0 0 A) (F0 m pc ls []) :=
  W.vret (cc := cc) hx hb hr (fun t ht hW => ⟨rfl, by rw [ht]; exact hG, hS.F ht⟩) hS.2.2 hd hlocks
theorem zm_i {v w : Int32} (hx : p.tables.exec = Jvm.exec) (hb : c.code = cc) (hr : meth.sig.returnType = some .int) (hlocks : meth.locks = false) (h : w = v) (hG : G' H) (hS : va_S A s.heap H locs) (hd : decode cc pc = .ok (.ireturn, 1)) : W p l e R s m args below meth c H locs 0 0 (MQ below (zqM (some (.int v)) G' A) args s 0 0 A) (F0 m pc ls [.int w]) := by
  subst h
  exact W.iret (cc := cc) hx hb hr (fun t ht hW => ⟨rfl, by rw [ht]; exact hG, hS.F ht⟩) hS.2.2 hd hlocks
theorem zm_z {b : Bool} {w : Int32} (hx : p.tables.exec = Jvm.exec) (hb : c.code = cc) (hr : meth.sig.returnType = some .boolean) (hlocks : meth.locks = false) (h : w = bI b) (hG : G' H) (hS : va_S A s.heap H locs) (hd : decode cc pc = .ok (.ireturn, 1)) : W p l e R s m args below meth c H locs 0 0 (MQ below (zqM (some (.int (bI b))) G' A) args s 0 0 A) (F0 m pc ls [.int w]) := by
  subst h
  exact W.zret (cc := cc) hx hb hr (bI_n b) (fun t ht hW => ⟨rfl, by rw [ht]; exact hG, hS.F ht⟩) hS.2.2 hd hlocks
theorem zm_c {v w : Int32} (hx : p.tables.exec = Jvm.exec) (hb : c.code = cc) (hr : meth.sig.returnType = some .char) (hlocks : meth.locks = false) (h : w = v) (hn : narrow .char (.int v) = .int v) (hG : G' H) (hS : va_S A s.heap H locs) (hd : decode cc pc = .ok (.ireturn, 1)) : W p l e R s m args below meth c H locs 0 0 (MQ below (zqM (some (.int v)) G' A) args s 0 0 A) (F0 m pc ls [.int w]) := by
  subst h
  exact W.zret (cc := cc) hx hb hr hn (fun t ht hW => ⟨rfl, by rw [ht]; exact hG, hS.F ht⟩) hS.2.2 hd hlocks
/-- branches on an answer that is a truth value -/
theorem zb_eq {b : Bool} {off : Int} {tgt : Nat} (hx : p.tables.exec = Jvm.exec) (hb : c.code = cc) (hdg : decode cc pc = .ok (.ifCond .eq off, 3)) (ht : (pc : Int) + off = (tgt : Int))
    (kt : b = false → W p l e R s m args below meth c H locs cells slots Q (F0 m tgt ls rest)) (kf : b = true → W p l e R s m args below meth c H locs cells slots Q (F0 m (pc + 3) ls rest)) : W p l e R s m args below meth c H locs cells slots Q (F0 m pc ls (.int (bI b) :: rest)) :=
  lv_if_eq hx hb hdg ht (fun h => kt (bI_0 h)) (fun h => kf (bI_1 h))
theorem zb_ne {b : Bool} {off : Int} {tgt : Nat} (hx : p.tables.exec = Jvm.exec) (hb : c.code = cc) (hdg : decode cc pc = .ok (.ifCond .ne off, 3)) (ht : (pc : Int) + off = (tgt : Int))
    (kt : b = true → W p l e R s m args below meth c H locs cells slots Q (F0 m tgt ls rest)) (kf : b = false → W p l e R s m args below meth c H locs cells slots Q (F0 m (pc + 3) ls rest)) : W p l e R s m args below meth c H locs cells slots Q (F0 m pc ls (.int (bI b) :: rest)) :=
  lv_if_ne hx hb hdg ht (fun h => kt (bI_1 h)) (fun h => kf (bI_0 h))
end ZC
theorem zvin {x : Int32} {n : Nat} (h : vp_in x n) : x.toNatClampNeg < n := Nat.not_le.mp fun q => h (Or.inr q)
