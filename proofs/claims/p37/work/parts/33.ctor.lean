/-! CONSTRUCTORS: rows at the level of single cells -/
def zCP (U : State) : Prop := (va_AO "Silkloft$Rigger" U ∧ va_AO "Silkloft$Canopy" U ∧ va_AO "Silkloft$Load" U ∧ va_AO "Silkloft$Finding" U) ∧ (va_Nw (.methodLinkNest "Silkloft$Loft" 37 yX0_init "Silkloft") U ∧ va_Nw (.methodLinkNest "Silkloft$Loft" 42 yX7_init "Silkloft") U ∧ va_Nw (.methodLinkNest "Silkloft$Loft" 43 yX1_init "Silkloft") U ∧ va_Nw (.methodLinkNest "Silkloft$Loft" 44 yX4_init "Silkloft") U ∧ va_Nw (.methodLinkNest "Silkloft$Loft" 45 yX3_init "Silkloft") U ∧ va_Nw (.methodLinkNest "Silkloft" 21 yX2_init "Silkloft") U)
theorem zCP.warm {s U : State} (hW : s.WarmedH U.vm) (h : zCP s) : zCP U := ⟨⟨va_AO.moved hW.alike h.1.1, va_AO.moved hW.alike h.1.2.1, va_AO.moved hW.alike h.1.2.2.1, va_AO.moved hW.alike h.1.2.2.2⟩, ⟨va_Nw.warmM hW h.2.1, va_Nw.warmM hW h.2.2.1, va_Nw.warmM hW h.2.2.2.1, va_Nw.warmM hW h.2.2.2.2.1, va_Nw.warmM hW h.2.2.2.2.2.1, va_Nw.warmM hW h.2.2.2.2.2.2⟩⟩
def zBC (D : va_G) (cy : Nat → ClassId) (G : Heap → Prop) : State → Prop := fun U => zK D cy U ∧ zCP U ∧ G U.heap
theorem zblindC {D : va_G} {cy : Nat → ClassId} {G : Heap → Prop} (U : State) (g : JFrame) (mk : MethodId) (a : Array Value) (q : zBC D cy G U) : zBC D cy G (U.calling g mk a) := ⟨zK.moved (u := U) (U := U.calling g mk a) (Vm.Alike.refl U.vm) q.1, zCP.warm (s := U) (U := U.calling g mk a) (State.WarmedH.refl U) q.2.1, q.2.2⟩
def zmI (y : MethodName) (C : String) (code : ByteArray) (n : Nat) : Prop := Cond.instanceMethod y ∈ lw_all ∧ Cond.initialized C ∈ lw_all ∧ Cond.code y code n none ∈ lw_all ∧ y.cls = C ∧ C ≠ "java/lang/invoke/MethodHandle" ∧ C ≠ "java/lang/invoke/VarHandle" ∧ (parseMethodDescriptor y.desc).map (fun d => d.parameters.length) = some 0 ∧ y.name = "<init>"
/-- what a constructor's body may write: its own cell, and new ones -/
def zcA (b n : Nat) : Nat → Prop := fun q => q = b ∨ n ≤ q
section ZCT
variable {p : Program} {l : Launch} {e : Env} {R : Room} {s : State} {m : MethodId} {args : Array Value} {below : List Frame} {meth : Method} {c : Code} {H : Heap} {locs : List Loc} {cells slots : Nat} {Q : State → Prop} {cc : ByteArray} {pc : Nat} {ls : Array Slot} {rest : List Value} {D : va_G} {cy : Nat → ClassId} {own C : String} {idx index d n na nL b r mc ms N ci a k : Nat} {A A1 A2 : Nat → Prop} {H0 : Heap} {y : MethodName} {code : ByteArray} {G G' : Heap → Prop} {st0 : List Value} {T : u_T}
theorem zmetC {B : State → Prop} {Qc : Array Value → State → Outcome → State → Prop} {free : Addr → Prop} (hy : plainName y.cls = true) (hC : y.cls = C) (hn : 1 ≤ n) (hnm : y.name = "<init>")
    (body : ∀ (p : Program) (e : Env) (s : State) (m : MethodId) (below : List Frame) (meth : Method) (c : Code) (ls : Array Slot), zX p m c s ([.ref b] : List Value).toArray C code → c.maxLocals = n → meth.sig.returnType = none → meth.locks = false → meth.name = "<init>" → B s → lv_has ls n [(0, .ref b)] → W p l e (zrx d mc ms) s m ([.ref b] : List Value).toArray below meth c s.heap [] 0 0 (MQ below Qc ([.ref b] : List Value).toArray s mc ms free) (F0 m 0 ls [])) : Met l y (zw y code n none) (zrx d mc ms) (va_Pc [.ref b] B) Qc mc ms free := by
  subst hC
  refine Met.ofW (cc := code) (maxL := n) (ret := none) hy rfl ?_
  intro p e s m args below meth c s₁ Bd hml hv
  obtain ⟨rfl, hB⟩ := hv
  have hts := atoms_spec (ws := zw y code n none) Bd.pre
  have hl := lv_entry ([.ref b] : List Value) (n := n) hn
  have hin : meth.name = y.name := (name_of_methodNamed Bd.named Bd.method).1
  rw [lg_entry_eq]
  exact body p e s m below meth c _ ⟨Bd.exec, Bd.bytes, findClass_of_methodNamed Bd.named, fun w h => hts w (List.mem_cons_of_mem _ h)⟩ hml Bd.returns Bd.notSynchronized (hin.trans hnm) hB hl
theorem zpreC (hK : zK D cy s) (hP : zCP s) (hG : G H) : PreS s H (va_Pc [.ref b] (zBC D cy G)) [.ref b] := ⟨fun a U g mk q => ⟨q.1, zblindC U g mk a q.2⟩, fun U hU hW => ⟨rfl, zK.moved hW.alike hK, zCP.warm hW hP, by rw [hU]; exact hG⟩⟩
theorem zcallC (X : zX p m c s args own cc) (hml : c.maxLocals = nL) (hK : zK D cy s) (hP : zCP s) (hG : G H) (hM : Met l y (zw y code n none) (zrx d mc ms) (va_Pc [.ref b] (zBC D cy G)) (zqM none G' A1) mc ms A1) (hm : zmI y C code n) (hn : n ≤ 21) (hl : Cond.methodLink own idx y ∈ lw_all) (hR : d + 1 ≤ R.frames ∧ 40 * (d + 1) ≤ R.locals) (hcs : cells + mc ≤ R.cells ∧ slots + ms ≤ R.slots) (hls : ls.size = nL) (hrm : (rest.map fun v => v.category).sum ≤ 8) (hd : decode cc pc = .ok (.invokespecial idx, 3)) (hS : va_S A H0 H locs) (hA : ∀ q, A1 q → A q)
    (kk : ∀ (H1 : Heap) (locs1 : List Loc), G' H1 → H.size ≤ H1.size → (∀ q, q < H.size → ¬ A1 q → H1[q]? = H[q]?) → va_S A H0 H1 locs1 → W p l e R s m args below meth c H1 locs1 (cells + mc) (slots + ms) Q (F0 m (pc + 3) ls rest)) : W p l e R s m args below meth c H locs cells slots Q (F0 m pc ls (.ref b :: rest)) := by
  obtain ⟨h1, h3, h4, rfl, h6, h7, h8, h9⟩ := hm
  exact zcMx (va_runI (As := []) ⟨X.1, X.2.1, hml, X.2.2.1, X.2.2.2⟩ hM ⟨zcwBx X.2.2.2 h3 h4 ⟨h6, h7, h8⟩ hl hR hn, h9, X.2.2.2 _ h1⟩ (zpreC hK hP hG) rfl rfl hls rfl (lv_room hrm) hd hcs) hS hA kk
theorem zcallCN {host : String} (X : zX p m c s args own cc) (hml : c.maxLocals = nL) (hK : zK D cy s) (hP : zCP s) (hG : G H) (hM : Met l y (zw y code n none) (zrx d mc ms) (va_Pc [.ref b] (zBC D cy G)) (zqM none G' A1) mc ms A1) (hm : zmI y C code n) (hn : n ≤ 21) (hl : va_Nw (.methodLinkNest own idx y host) s) (hR : d + 1 ≤ R.frames ∧ 40 * (d + 1) ≤ R.locals) (hcs : cells + mc ≤ R.cells ∧ slots + ms ≤ R.slots) (hls : ls.size = nL) (hrm : (rest.map fun v => v.category).sum ≤ 8) (hd : decode cc pc = .ok (.invokespecial idx, 3)) (hS : va_S A H0 H locs) (hA : ∀ q, A1 q → A q)
    (kk : ∀ (H1 : Heap) (locs1 : List Loc), G' H1 → H.size ≤ H1.size → (∀ q, q < H.size → ¬ A1 q → H1[q]? = H[q]?) → va_S A H0 H1 locs1 → W p l e R s m args below meth c H1 locs1 (cells + mc) (slots + ms) Q (F0 m (pc + 3) ls rest)) : W p l e R s m args below meth c H locs cells slots Q (F0 m pc ls (.ref b :: rest)) := by
  obtain ⟨h1, h3, h4, rfl, h6, h7, h8, h9⟩ := hm
  refine zcMx (va_runIN (As := []) (host := host) (bytes := code) (maxL := n) ⟨X.1, X.2.1, hml, X.2.2.1, X.2.2.2⟩ hM ⟨va_cnB 0 X.2.2.2 (fun w hw => ?_) rfl rfl rfl hl (X.2.2.2 _ h3) ⟨h6, h7, h8⟩ ⟨hR.1, ?_⟩, h9, X.2.2.2 _ h1⟩ (zpreC hK hP hG) rfl rfl hls rfl (lv_room hrm) hd hcs) hS hA kk
  · rcases List.mem_cons.mp hw with rfl | hw
    · exact ⟨h4, lw_good h4⟩
    · exact ⟨hw, lw_good hw⟩
  · show 8 + (n + 11) + 40 * d ≤ R.locals
    have := hR.2
    omega
/-- Object's constructor -/
theorem zkObj (X : zX p m c s args own cc) (hml : c.maxLocals = nL) (hls : ls.size = nL) (hl : Cond.methodLink own idx Lib.objectInit ∈ lw_all) (hi : Cond.instanceMethod Lib.objectInit ∈ lw_all) (hc : Cond.code Lib.objectInit ⟨#[0xb1]⟩ 1 none ∈ lw_all) (hd : decode cc pc = .ok (.invokespecial idx, 3)) (hR : 1 ≤ R.frames ∧ 20 ≤ R.locals) (hrm : (rest.map fun v => v.category).sum ≤ 8)
    (kk : W p l e R s m args below meth c H locs cells slots Q (F0 m (pc + 3) ls rest)) : W p l e R s m args below meth c H locs cells slots Q (F0 m pc ls (.ref a :: rest)) :=
  W.objInit X.1 X.2.1 X.2.2.1 (X.2.2.2 _ hl) (X.2.2.2 _ hi) (X.2.2.2 _ hc) rfl (hls.trans hml.symm) rfl hd hR.1 (Nat.le_trans (Nat.add_le_add_right (lv_room hrm) 12) hR.2) kk
theorem zSnew {H1 : Heap} (hS : va_S A H0 H locs) (z : H1.size = H.size + 1) (o : ∀ q, q < H.size → H1[q]? = H[q]?) : va_S A H0 H1 locs := ⟨Nat.le_trans hS.1 (by omega), fun q h1 h2 => (o q (Nat.lt_of_lt_of_le h1 hS.1)).trans (hS.2.1 q h1 h2), hS.2.2⟩
/-- 'new int[N]' -/
theorem zkNI {v : Int32} (X : zX p m c s args own cc) (hK : zK D cy s) (hw : Cond.arrayClass .int ∈ lw_all) (hv : ¬ v < 0) (hN : v.toNatClampNeg = N) (hby : N * 4 ≤ 536870912) (hcs : cells + 1 ≤ R.cells ∧ slots + N ≤ R.slots) {h : Nat} (hh : H.size = h) (hS : va_S A H0 H locs) (hd : decode cc pc = .ok (.newarray .int, 2))
    (kk : ∀ H1 : Heap, va_at D zcl (h, .inl (cy 0, N, .inl (fun _ => 0))) H1 → H1.size = h + 1 → (∀ q, q < h → H1[q]? = H[q]?) → va_S A H0 H1 locs → W p l e R s m args below meth c H1 locs (cells + 1) (slots + N) Q (F0 m (pc + 2) ls (.ref h :: rest))) : W p l e R s m args below meth c H locs cells slots Q (F0 m pc ls (.int v :: rest)) := by
  subst hh
  refine va_newaK X.1 X.2.1 (atype := .int) (X.2.2.2 _ hw) (g := F0 m pc ls (.int v :: rest)) rfl hd rfl hv hN hby hcs.1 hcs.2 rfl fun H1 cA e1 z1 o1 _ hNm => ?_
  have hcA : cA = cy 0 := Option.some.inj (hNm.symm.trans (hK.2 0 _ rfl).2)
  subst hcA
  exact kk H1 e1 z1 o1 (zSnew hS z1 o1)
theorem zkNL {v : Int32} (X : zX p m c s args own cc) (hK : zK D cy s) (hw : Cond.arrayClass .long ∈ lw_all) (hv : ¬ v < 0) (hN : v.toNatClampNeg = N) (hby : N * 8 ≤ 536870912) (hcs : cells + 1 ≤ R.cells ∧ slots + N ≤ R.slots) {h : Nat} (hh : H.size = h) (hS : va_S A H0 H locs) (hd : decode cc pc = .ok (.newarray .long, 2))
    (kk : ∀ H1 : Heap, va_at D zcl (h, .inl (cy 5, N, .inr (.inl (fun _ => 0)))) H1 → H1.size = h + 1 → (∀ q, q < h → H1[q]? = H[q]?) → va_S A H0 H1 locs → W p l e R s m args below meth c H1 locs (cells + 1) (slots + N) Q (F0 m (pc + 2) ls (.ref h :: rest))) : W p l e R s m args below meth c H locs cells slots Q (F0 m pc ls (.int v :: rest)) := by
  subst hh
  refine va_newaK X.1 X.2.1 (atype := .long) (X.2.2.2 _ hw) (g := F0 m pc ls (.int v :: rest)) rfl hd rfl hv hN hby hcs.1 hcs.2 rfl fun H1 cA e1 z1 o1 _ hNm => ?_
  have hcA : cA = cy 5 := Option.some.inj (hNm.symm.trans (hK.2 5 _ rfl).2)
  subst hcA
  exact kk H1 e1 z1 o1 (zSnew hS z1 o1)
/-- 'new C' -/
theorem zkNO {fs : List Value} (X : zX p m c s args own cc) (hK : zK D cy s) (hc : zcl[ci]? = some (C, T, N)) (hin : ∀ w ∈ u_ws C T N, w ∈ lw_all) (ty : Nat → FieldType) (hty : ∀ k, k < N → parseFieldDescriptor (T k).2.2.1 = some (ty k)) (hcl : Cond.classLink own index C ∈ lw_all) (hinst : Cond.instantiable C N ∈ lw_all) (hini : Cond.initialized C ∈ lw_all) (hfs : ∀ j, j < N → defaultValue (ty j) = vp_V fs j) (hcs : cells + 1 ≤ R.cells ∧ slots + N ≤ R.slots) {h : Nat} (hh : H.size = h) (hS : va_S A H0 H locs) (hd : decode cc pc = .ok (.new index, 3))
    (kk : ∀ H1 : Heap, va_at D zcl (h, .inr (ci, fs)) H1 → H1.size = h + 1 → (∀ q, q < h → H1[q]? = H[q]?) → va_S A H0 H1 locs → W p l e R s m args below meth c H1 locs (cells + 1) (slots + N) Q (F0 m (pc + 3) ls (.ref h :: rest))) : W p l e R s m args below meth c H locs cells slots Q (F0 m pc ls rest) := by
  subst hh
  have hKn := hK.1 ci _ hc
  refine W.newcK X.1 X.2.1 X.2.2.1 (X.2.2.2 _ hcl) (X.2.2.2 _ hinst) (X.2.2.2 _ hini) (g := F0 m pc ls rest) rfl hd hcs.1 hcs.2 hKn.2.1 rfl fun H1 kC hkC e1 z1 o1 => ?_
  exact kk H1 ⟨_, hc, (u_born ty X.2.2.2 hin hKn hkC e1 hty).to hfs⟩ z1 o1 (zSnew hS z1 o1)
/-- a final field of the cell in the making -/
theorem zkPF {fs : List Value} {v : Value} (X : zX p m c s args C cc) (hinit : meth.name = "<init>") (hK : zK D cy s) (hat : va_at D zcl (a, .inr (ci, fs)) H) (hS : va_S A H0 H locs) (hA : A a) (hc : zcl[ci]? = some (C, T, N)) (hin : ∀ w ∈ u_ws C T N, w ∈ lw_all) (ty0 : Nat → FieldType) (hty : ∀ k, k < N → parseFieldDescriptor (T k).2.2.1 = some (ty0 k)) (hnm : ∀ a, a < N → ∀ b, b < N → a ≠ b → (T a).2.1 ≠ (T b).2.1) (k : Nat) (hk : k < N) {nm ds : String} (h1 : (T k).1 = C) (h2 : (T k).2.1 = nm) (h3 : (T k).2.2.1 = ds) (hl : Cond.fieldLink C index C nm ds ∈ lw_all) (hfin : (T k).2.2.2 = true) {ty : FieldType} (hdt : parseFieldDescriptor (T k).2.2.1 = some ty) (hn : narrow ty v = v) (hfit : fits ty v = true) (hlen : k < fs.length) (hd : decode cc pc = .ok (.putfield index, 3))
    (kk : ∀ (H1 : Heap) (locs1 : List Loc), va_at D zcl (a, .inr (ci, fs.set k v)) H1 → H1.size = H.size → (∀ q, q ≠ a → H1[q]? = H[q]?) → va_S A H0 H1 locs1 → W p l e R s m args below meth c H1 locs1 cells slots Q (F0 m (pc + 3) ls rest)) : W p l e R s m args below meth c H locs cells slots Q (F0 m pc ls (v :: .ref a :: rest)) := by
  subst h2
  subst h3
  have hts := X.2.2.2
  have hown := X.2.2.1
  have hap := va_apart (own := C) hts hin ty0 hty hnm hK hc
  obtain ⟨r, hr1, cell, q1, q2, q3, q4⟩ := hat
  have hr : r = (C, T, N) := Option.some.inj (hr1.symm.trans hc)
  subst hr
  obtain ⟨hSl, hfc, kC, hkC, hkind⟩ := hK.1 ci _ hc
  obtain ⟨cf, kf, fi, f, hi, hsl⟩ := hSl k hk
  have hlay := hts _ (hin _ (u_in_lay hk))
  unfold u_lay at hlay
  rw [if_pos hfin] at hlay
  have hst := (u_facts hfc hkC (u_lays hts hin hk) hi).1
  have hcf : m.cls = cf := by
    obtain ⟨_, _, c', _, _, _, -, -, hf', -, -, -, hown2, -⟩ := Cond.laysFinal_spec hlay
    have e1 : c' = cf := by have := hi.symm.trans hf'; simp at this; exact this.1.symm
    rw [h1] at hown2
    rw [← e1]; exact Option.some.inj (hown.symm.trans hown2)
  have h6 := u_fits hfc hkC hkind (Or.inr hlay) hi hdt hn hfit
  refine W.putFinK X.1 X.2.1 hown (hts _ hl) (by rw [← h1]; exact hi) hst hcf hinit (by rw [q2]; exact h6) q1 q3 (by rw [hsl]; exact k2_hasslot (q4 k hk)) rfl rfl hd fun H' e1 e2 e3 => ?_
  rw [hsl] at e1 ⊢
  exact kk H' _ ⟨_, hc, t_OB.to (V := updV (vp_V fs) k v) ⟨_, e1, q2, q3, t_set q4 hap hk v⟩ (fun j _ => vp_updV_set hlen v j)⟩ e2 e3 (hS.put e2 e3 hA)
/-- any other field -/
theorem zkPN {fs : List Value} {v : Value} (X : zX p m c s args C cc) (hK : zK D cy s) (hat : va_at D zcl (a, .inr (ci, fs)) H) (hS : va_S A H0 H locs) (hA : A a) (hc : zcl[ci]? = some (C, T, N)) (hin : ∀ w ∈ u_ws C T N, w ∈ lw_all) (ty0 : Nat → FieldType) (hty : ∀ k, k < N → parseFieldDescriptor (T k).2.2.1 = some (ty0 k)) (hnm : ∀ a, a < N → ∀ b, b < N → a ≠ b → (T a).2.1 ≠ (T b).2.1) (k : Nat) (hk : k < N) {nm ds : String} (h1 : (T k).1 = C) (h2 : (T k).2.1 = nm) (h3 : (T k).2.2.1 = ds) (hl : Cond.fieldLink C index C nm ds ∈ lw_all) (hfin : (T k).2.2.2 = false) {ty : FieldType} (hdt : parseFieldDescriptor (T k).2.2.1 = some ty) (hn : narrow ty v = v) (hfit : fits ty v = true) (hlen : k < fs.length) (hd : decode cc pc = .ok (.putfield index, 3))
    (kk : ∀ (H1 : Heap) (locs1 : List Loc), va_at D zcl (a, .inr (ci, fs.set k v)) H1 → H1.size = H.size → (∀ q, q ≠ a → H1[q]? = H[q]?) → va_S A H0 H1 locs1 → W p l e R s m args below meth c H1 locs1 cells slots Q (F0 m (pc + 3) ls rest)) : W p l e R s m args below meth c H locs cells slots Q (F0 m pc ls (v :: .ref a :: rest)) := by
  subst h2
  subst h3
  have hts := X.2.2.2
  have hown := X.2.2.1
  have hap := va_apart (own := C) hts hin ty0 hty hnm hK hc
  obtain ⟨r, hr1, cell, q1, q2, q3, q4⟩ := hat
  have hr : r = (C, T, N) := Option.some.inj (hr1.symm.trans hc)
  subst hr
  obtain ⟨hSl, hfc, kC, hkC, hkind⟩ := hK.1 ci _ hc
  obtain ⟨cf, kf, fi, f, hi, hsl⟩ := hSl k hk
  have hlay := hts _ (hin _ (u_in_lay hk))
  unfold u_lay at hlay
  rw [if_neg (by rw [hfin]; decide)] at hlay
  have hst := (u_facts hfc hkC (u_lays hts hin hk) hi).1
  have h6 := u_store hfc hkC hkind hlay hi hdt hn hfit
  refine W.putK X.1 X.2.1 (f := f) ⟨hown, hts _ hl, ⟨_, _, _, by rw [← h1]; exact hi⟩, hst⟩ (by rw [q2]; exact h6) q1 q3 (by rw [hsl]; exact k2_hasslot (q4 k hk)) rfl rfl hd fun H' e1 e2 e3 => ?_
  rw [hsl] at e1 ⊢
  exact kk H' _ ⟨_, hc, t_OB.to (V := updV (vp_V fs) k v) ⟨_, e1, q2, q3, t_set q4 hap hk v⟩ (fun j _ => vp_updV_set hlen v j)⟩ e2 e3 (hS.put e2 e3 hA)
/-- 'new C[N]' -/
theorem zkNR {v : Int32} {t : Nat} (X : zX p m c s args own cc) (hK : zK D cy s) (ht : ([(cy 0, .int), (cy 1, .object "Silkloft$Rigger"), (cy 2, .object "Silkloft$Canopy"), (cy 3, .object "Silkloft$Load"), (cy 4, .object "Silkloft$Finding"), (cy 5, .long)] : List (ClassId × FieldType))[t]? = some (cy t, .object C)) (hcl : Cond.classLink own index C ∈ lw_all) (hover : va_AO C s) (hv : ¬ v < 0) (hN : v.toNatClampNeg = N) (hby : N * 4 ≤ 536870912) (hcs : cells + 1 ≤ R.cells ∧ slots + N ≤ R.slots) {h : Nat} (hh : H.size = h) (hS : va_S A H0 H locs) (hd : decode cc pc = .ok (.anewarray index, 3))
    (kk : ∀ H1 : Heap, va_at D zcl (h, .inl (cy t, N, .inr (.inr (.inr (.inr (fun _ => none)))))) H1 → H1.size = h + 1 → (∀ q, q < h → H1[q]? = H[q]?) → va_S A H0 H1 locs → W p l e R s m args below meth c H1 locs (cells + 1) (slots + N) Q (F0 m (pc + 3) ls (.ref h :: rest))) : W p l e R s m args below meth c H locs cells slots Q (F0 m pc ls (.int v :: rest)) := by
  subst hh
  subst hN
  refine W.anew X.1 X.2.1 X.2.2.1 (X.2.2.2 _ hcl) (va_AO.use hover) (g := F0 m pc ls (.int v :: rest)) rfl hd rfl hv hby hcs.1 hcs.2 fun cA kA comp f1 f2 f3 f4 => ?_
  obtain ⟨kA', comp', g1, g2, g3, g4⟩ := (hK.2 t _ ht).2
  have hcA : cA = cy t := Option.some.inj (f1.symm.trans g4)
  subst hcA
  generalize hH1 : H.push ({ cls := cy t, slots := Array.replicate v.toNatClampNeg .null, vm := .none } : Cell) = H1
  have z1 : H1.size = H.size + 1 := by rw [← hH1, Array.size_push]
  have e1 : H1[H.size]? = some (arrV (cy t) v.toNatClampNeg (fun _ => .null)) := by rw [← hH1, Array.getElem?_push_size, ← arrV_new]
  have o1 : ∀ q : Nat, q < H.size → H1[q]? = H[q]? := fun q hq => by rw [← hH1, Array.getElem?_push, if_neg (Nat.ne_of_lt hq)]
  exact kk H1 e1 z1 o1 (zSnew hS z1 o1)
/-- 'row[i] = object' -/
theorem zkAA {t i v : Nat} {vs : List Value} {f : Nat → Option Nat} (X : zX p m c s args own cc) (hK : zK D cy s) (ht : ([(cy 0, .int), (cy 1, .object "Silkloft$Rigger"), (cy 2, .object "Silkloft$Canopy"), (cy 3, .object "Silkloft$Load"), (cy 4, .object "Silkloft$Finding"), (cy 5, .long)] : List (ClassId × FieldType))[t]? = some (cy t, .object C)) (hc : zcl[ci]? = some (C, T, N)) (hat : va_at D zcl (a, .inl (cy t, n, .inr (.inr (.inr (.inr f))))) H) (hav : va_at D zcl (v, .inr (ci, vs)) H) (hi : i < n) (hn : n < 2 ^ 31) (hS : va_S A H0 H locs) (hA : A a) (hd : decode cc pc = .ok (.aastore, 1))
    (kk : ∀ (H1 : Heap) (locs1 : List Loc), va_at D zcl (a, .inl (cy t, n, .inr (.inr (.inr (.inr (va_up f i (some v))))))) H1 → H1.size = H.size → (∀ q, q ≠ a → H1[q]? = H[q]?) → va_S A H0 H1 locs1 → W p l e R s m args below meth c H1 locs1 cells slots Q (F0 m (pc + 1) ls rest)) : W p l e R s m args below meth c H locs cells slots Q (F0 m pc ls (.ref v :: .int (nI i) :: .ref a :: rest)) := by
  obtain ⟨r', hr', cellV, g1, g2, g3, -⟩ := hav
  have hr : r' = (C, T, N) := Option.some.inj (hr'.symm.trans hc)
  subst hr
  have hcls := (hK.1 ci _ hc).2
  obtain ⟨kA, comp, k1, k2, k3, -⟩ := (hK.2 t _ ht).2
  have hcomp : comp = D.1 ci := Option.some.inj (k3.symm.trans hcls.1)
  subst hcomp
  obtain ⟨kC, hkC, -⟩ := hcls.2
  have hcl : (nI i).toNatClampNeg = i := nI_clamp (by omega)
  refine W.aast X.1 X.2.1 hat (fun q h => by cases h) (fun h => by cases h) k1 k2 rfl hkC ⟨nI_pos (by omega), by show _ < (arrV _ _ _).slots.size; rw [arrV_size, hcl]; exact hi⟩ g1 (fun q h => by rw [g3] at h; cases h) (by rw [g2]; exact hkC) (by rw [g2]; exact va_assign hcls) rfl rfl hd fun H1 e z oq => ?_
  refine kk H1 _ ?_ z oq (hS.put z oq hA)
  rw [hcl] at e
  show H1[a]? = some (vp_cell _ _)
  rw [e]
  rw [vp_cell_q, vp_cell_q, arrV_store]
  refine congrArg (fun z => some (arrV (cy t) n z)) (funext fun q => ?_)
  by_cases hq : q = i
  · subst hq
    simp [updV, va_up, va_rf]
  · simp [updV, va_up, hq]
theorem zkE (X : zX p m c s args own cc) (hr : meth.sig.returnType = none) (hlocks : meth.locks = false) (hG : G' H) (hS : va_S A s.heap H locs) (h1 : cells ≤ mc) (h2 : slots ≤ ms) (hd : decode cc pc = .ok (.return_, 1)) : W p l e R s m args below meth c H locs cells slots (MQ below (zqM none G' A) args s mc ms A) (F0 m pc ls []) :=
  zwid h1 h2 (W.vret (cc := cc) X.1 X.2.1 hr (fun t ht hW => ⟨rfl, by rw [ht]; exact hG, hS.F ht⟩) hS.2.2 hd hlocks)
end ZCT
