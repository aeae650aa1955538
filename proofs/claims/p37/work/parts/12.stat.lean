/-! WHAT THE STATICS HOLD: the five answers of Rules, and what a new exception asks of the JDK -/
def zen (k : Nat) : String := match k with
  | 0 => "NONE"
  | 1 => "INDEX"
  | 2 => "ARGUMENT"
  | 3 => "UNSUPPORTED"
  | _ => "STATE"
/-- the texts that exceptions are made with: class, entry, text -/
def zstr : List (String × Nat × String) := [("Silkloft", 170, "there is no such one"), ("Silkloft", 175, "an argument does not do"), ("Silkloft", 182, "as things are, this can't be done"), ("Silkloft", 190, "there is no room for more"), ("Silkloft", 36, "no such finding"), ("Silkloft", 137, "no such canopy"), ("Silkloft", 66, "no such packing"), ("Silkloft", 70, "no such thing of a packing"), ("Silkloft", 95, "no packed reserve in date"), ("Silkloft", 111, "no canopies")]
def zE (rf : Nat → Nat) (A : Nat → Prop) (U : State) (H : Heap) : Prop :=
  (∀ k, k < 5 → va_Z "Silkloft$Refusal" (zen k) "LSilkloft$Refusal;" (.ref (rf k)) A U H) ∧ (∀ i j, i < 5 → j < 5 → rf i = rf j → i = j) ∧ vx_Zq Bundle.tN "UNASSIGNED_STACK" Bundle.steD A U H ∧ vx_Zq Bundle.tN "SUPPRESSED_SENTINEL" Bundle.listD A U H ∧ ∀ q ∈ zstr, ∃ a, vk_R q.1 q.2.1 q.2.2 a U
theorem zE.warm {rf : Nat → Nat} {A : Nat → Prop} {u U : State} {H : Heap} (hW : u.WarmedH U.vm) (h : zE rf A u H) : zE rf A U H :=
  ⟨fun k hk => va_Z.moved hW.alike (h.1 k hk), h.2.1, vx_Zq.moved hW.alike h.2.2.1, vx_Zq.moved hW.alike h.2.2.2.1, fun q hq => by
    obtain ⟨a, ha⟩ := h.2.2.2.2 q hq
    exact ⟨a, vk_R.warm hW ha⟩⟩
theorem zE.same {rf : Nat → Nat} {A : Nat → Prop} {u U : State} {H : Heap} (hv : U.vm = u.vm) (h : zE rf A u H) : zE rf A U H := by
  have hA : u.vm.Alike U.vm := by rw [hv]; exact Vm.Alike.refl _
  exact ⟨fun k hk => va_Z.moved hA (h.1 k hk), h.2.1, vx_Zq.moved hA h.2.2.1, vx_Zq.moved hA h.2.2.2.1, fun q hq => by
    obtain ⟨a, ha⟩ := h.2.2.2.2 q hq
    exact ⟨a, vk_R.same hv ha⟩⟩
theorem zE.kept {rf : Nat → Nat} {A : Nat → Prop} {U : State} {H H1 : Heap} (h : zE rf A U H) (hq : ∀ a : Nat, a < H.size → ¬ A a → H1[a]? = H[a]?) : zE rf A U H1 :=
  ⟨fun k hk => va_Z.kept (h.1 k hk) hq, h.2.1, vx_Zq.kept h.2.2.1 hq, vx_Zq.kept h.2.2.2.1 hq, h.2.2.2.2⟩
theorem zE.narrow {rf : Nat → Nat} {A B : Nat → Prop} {U : State} {H : Heap} (h : zE rf A U H) (hAB : ∀ q, B q → A q) : zE rf B U H :=
  ⟨fun k hk => va_Z.narrow (h.1 k hk) hAB, h.2.1, vx_Zq.narrow h.2.2.1 hAB, vx_Zq.narrow h.2.2.2.1 hAB, h.2.2.2.2⟩
def zBE (D : va_G) (cy : Nat → ClassId) (rf : Nat → Nat) (G : Heap → Prop) : State → Prop := fun U => zK D cy U ∧ zE rf (fun _ => False) U U.heap ∧ G U.heap
theorem zblindE {D : va_G} {cy : Nat → ClassId} {rf : Nat → Nat} {G : Heap → Prop} (U : State) (g : JFrame) (mk : MethodId) (a : Array Value) (q : zBE D cy rf G U) : zBE D cy rf G (U.calling g mk a) := ⟨zK.moved (u := U) (U := U.calling g mk a) (Vm.Alike.refl U.vm) q.1, zE.same (u := U) (U := U.calling g mk a) rfl q.2.1, q.2.2⟩
section ZE
variable {p : Program} {l : Launch} {e : Env} {R : Room} {s : State} {m : MethodId} {args : Array Value} {below : List Frame} {meth : Method} {c : Code} {H : Heap} {locs : List Loc} {cells slots : Nat} {Q : State → Prop} {cc : ByteArray} {pc : Nat} {ls : Array Slot} {rest : List Value} {D : va_G} {cy : Nat → ClassId} {rf : Nat → Nat} {own C : String} {idx d n na nL b : Nat} {A A1 A2 : Nat → Prop} {H0 : Heap} {y : MethodName} {code : ByteArray} {ret : Option FieldType} {G G' : Heap → Prop} {As st0 : List Value}
theorem zpreVe (hK : zK D cy s) (hE : zE rf A s H) (hG : G H) (hr : ∃ cell : Cell, H[b]? = some cell ∧ cell.vm.isStatics = false ∧ s.vm.findClass C = some cell.cls) : PreV s H C b (va_Pc (.ref b :: As) (zBE D cy rf G)) As := ⟨fun a U g mk q => ⟨q.1, zblindE U g mk a q.2⟩, hr, fun U hU hW => ⟨rfl, zK.moved hW.alike hK, by rw [hU]; exact zE.warm hW (zE.narrow hE (fun _ h => h.elim)), by rw [hU]; exact hG⟩⟩
theorem zpreSe (hK : zK D cy s) (hE : zE rf A s H) (hG : G H) : PreS s H (va_Pc As (zBE D cy rf G)) As := ⟨fun a U g mk q => ⟨q.1, zblindE U g mk a q.2⟩, fun U hU hW => ⟨rfl, zK.moved hW.alike hK, by rw [hU]; exact zE.warm hW (zE.narrow hE (fun _ h => h.elim)), by rw [hU]; exact hG⟩⟩
theorem zcallRVe {v : Value} (X : zX p m c s args own cc) (hml : c.maxLocals = nL) (hK : zK D cy s) (hE : zE rf A s H) (hG : G H) (hM : Met l y (zw y code n ret) (zrm d) (va_Pc (.ref b :: As) (zBE D cy rf G)) (zqR v) 0 0 (fun _ => False)) (hm : zmV y C code n ret na) (hn : n ≤ 21) (hl : Cond.methodLink own idx y ∈ lw_all) (hr : ∃ cell : Cell, H[b]? = some cell ∧ cell.vm.isStatics = false ∧ s.vm.findClass C = some cell.cls) (hR : d + 1 ≤ R.frames ∧ 40 * (d + 1) ≤ R.locals) (hcs : cells ≤ R.cells ∧ slots ≤ R.slots) (hna : As.length = na) (hls : ls.size = nL) (hst : st0 = As.reverse ++ .ref b :: rest) (hrm : (rest.map fun v => v.category).sum ≤ 8) (hd : decode cc pc = .ok (.invokevirtual idx, 3))
    (kk : W p l e R s m args below meth c H locs cells slots Q (F0 m (pc + 3) ls (v :: rest))) : W p l e R s m args below meth c H locs cells slots Q (F0 m pc ls st0) :=
  zcR (W.runV ⟨X.1, X.2.1, hml, X.2.2.1, X.2.2.2⟩ hM (zcwV X.2.2.2 hm hl hR hn) (zpreVe hK hE hG hr) rfl hna hls hst (lv_room hrm) hd hcs) kk
theorem zcallRSe {v : Value} (X : zX p m c s args own cc) (hml : c.maxLocals = nL) (hK : zK D cy s) (hE : zE rf A s H) (hG : G H) (hM : Met l y (zw y code n ret) (zrm d) (va_Pc As (zBE D cy rf G)) (zqR v) 0 0 (fun _ => False)) (hm : zmS y C code n ret na) (hn : n ≤ 21) (hl : Cond.methodLink own idx y ∈ lw_all) (hR : d + 1 ≤ R.frames ∧ 40 * (d + 1) ≤ R.locals) (hcs : cells ≤ R.cells ∧ slots ≤ R.slots) (hna : As.length = na) (hls : ls.size = nL) (hst : st0 = As.reverse ++ rest) (hrm : (rest.map fun v => v.category).sum ≤ 8) (hd : decode cc pc = .ok (.invokestatic idx, 3))
    (kk : W p l e R s m args below meth c H locs cells slots Q (F0 m (pc + 3) ls (v :: rest))) : W p l e R s m args below meth c H locs cells slots Q (F0 m pc ls st0) :=
  zcR (W.runS ⟨X.1, X.2.1, hml, X.2.2.1, X.2.2.2⟩ hM (zcwS X.2.2.2 hm hl hR hn) (zpreSe hK hE hG) rfl hna hls hst (lv_room hrm) hd hcs) kk
theorem zcallMVe {v : Option Value} (X : zX p m c s args own cc) (hml : c.maxLocals = nL) (hK : zK D cy s) (hE : zE rf A2 s H) (hG : G H) (hM : Met l y (zw y code n ret) (zrm d) (va_Pc (.ref b :: As) (zBE D cy rf G)) (zqM v G' A1) 0 0 A1) (hm : zmV y C code n ret na) (hn : n ≤ 21) (hl : Cond.methodLink own idx y ∈ lw_all) (hr : ∃ cell : Cell, H[b]? = some cell ∧ cell.vm.isStatics = false ∧ s.vm.findClass C = some cell.cls) (hR : d + 1 ≤ R.frames ∧ 40 * (d + 1) ≤ R.locals) (hcs : cells ≤ R.cells ∧ slots ≤ R.slots) (hna : As.length = na) (hls : ls.size = nL) (hst : st0 = As.reverse ++ .ref b :: rest) (hrm : (rest.map fun v => v.category).sum ≤ 8) (hd : decode cc pc = .ok (.invokevirtual idx, 3)) (hS : va_S A H0 H locs) (hA : ∀ q, A1 q → A q)
    (kk : ∀ (H1 : Heap) (locs1 : List Loc), G' H1 → H.size ≤ H1.size → (∀ q, q < H.size → ¬ A1 q → H1[q]? = H[q]?) → va_S A H0 H1 locs1 → W p l e R s m args below meth c H1 locs1 cells slots Q (F0 m (pc + 3) ls (v.toList ++ rest))) : W p l e R s m args below meth c H locs cells slots Q (F0 m pc ls st0) :=
  zcM (W.runV ⟨X.1, X.2.1, hml, X.2.2.1, X.2.2.2⟩ hM (zcwV X.2.2.2 hm hl hR hn) (zpreVe hK hE hG hr) rfl hna hls hst (lv_room hrm) hd hcs) hS hA kk
theorem zgetE {index : Nat} {nm : String} (X : zX p m c s args own cc) (hE : zE rf A s s.heap) (hS : va_S A s.heap H locs) (k : Nat) (hk : k < 5) (hn : zen k = nm) (hl : Cond.fieldLink own index "Silkloft$Refusal" nm "LSilkloft$Refusal;" ∈ lw_all) (hd : decode cc pc = .ok (.getstatic index, 3))
    (kk : W p l e R s m args below meth c H locs cells slots Q (F0 m (pc + 3) ls (.ref (rf k) :: rest))) : W p l e R s m args below meth c H locs cells slots Q (F0 m pc ls rest) := by
  subst hn
  exact va_gets X.1 X.2.1 (hE.1 k hk) hS X.2.2.1 (X.2.2.2 _ hl) (fun _ h => h) hd kk
theorem zcmpE_eq {i j : Nat} {off : Int} {tgt : Nat} (X : zX p m c s args own cc) (hj : ∀ i j, i < 5 → j < 5 → rf i = rf j → i = j) (hi : i < 5) (hjj : j < 5) (hd : decode cc pc = .ok (.if_acmp .eq off, 3)) (ht : (pc : Int) + off = (tgt : Int))
    (kt : i = j → W p l e R s m args below meth c H locs cells slots Q (F0 m tgt ls rest)) (kf : ¬ i = j → W p l e R s m args below meth c H locs cells slots Q (F0 m (pc + 3) ls rest)) : W p l e R s m args below meth c H locs cells slots Q (F0 m pc ls (.ref (rf j) :: .ref (rf i) :: rest)) :=
  lv_acmp_eq (rx := some (rf i)) (ry := some (rf j)) X.1 X.2.1 hd ht (fun h => kt (hj i j hi hjj (Option.some.inj h))) (fun h => kf (fun z => h (by rw [z])))
theorem zcmpE_ne {i j : Nat} {off : Int} {tgt : Nat} (X : zX p m c s args own cc) (hj : ∀ i j, i < 5 → j < 5 → rf i = rf j → i = j) (hi : i < 5) (hjj : j < 5) (hd : decode cc pc = .ok (.if_acmp .ne off, 3)) (ht : (pc : Int) + off = (tgt : Int))
    (kt : ¬ i = j → W p l e R s m args below meth c H locs cells slots Q (F0 m tgt ls rest)) (kf : i = j → W p l e R s m args below meth c H locs cells slots Q (F0 m (pc + 3) ls rest)) : W p l e R s m args below meth c H locs cells slots Q (F0 m pc ls (.ref (rf j) :: .ref (rf i) :: rest)) :=
  lv_acmp_ne (rx := some (rf i)) (ry := some (rf j)) X.1 X.2.1 hd ht (fun h => kt (fun z => h (by rw [z]))) (fun h => kf (hj i j hi hjj (Option.some.inj h)))
end ZE
