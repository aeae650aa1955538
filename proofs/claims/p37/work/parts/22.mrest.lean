theorem zm_l {p : Program} {l : Launch} {e : Env} {R : Room} {s : State} {m : MethodId} {args : Array Value} {below : List Frame} {meth : Method} {c : Code} {H : Heap} {locs : List Loc} {cc : ByteArray} {pc : Nat} {ls : Array Slot} {A : Nat → Prop} {G' : Heap → Prop} {v w : Int64} (hx : p.tables.exec = Jvm.exec) (hb : c.code = cc) (hr : meth.sig.returnType = some .long) (hlocks : meth.locks = false) (h : w = v) (hG : G' H) (hS : va_S A s.heap H locs) (hd : decode cc pc = .ok (.lreturn, 1)) : W p l e R s m args below meth c H locs 0 0 (MQ below (zqM (some (.long v)) G' A) args s 0 0 A) (F0 m pc ls [.long w]) := by
  subst h
  exact W.lret (cc := cc) hx hb hr (fun t ht hW => ⟨rfl, by rw [ht]; exact hG, hS.F ht⟩) hS.2.2 hd hlocks
def f_X10_kept (μ : zS) : zS := (zpI μ 838 0 0)
def r_X10_kept (μ : zS) : Int64 := zL (zpI μ 838 0 0) 847 0
def f_X10_isSound (μ : zS) : zS := (f_X10_tells μ true)
def r_X10_isSound (μ : zS) : Bool := r_X10_tells μ true
def f_X10_tellCause (μ : zS) (w1 : Int32) (w2 : Int32) : zS := if y_has μ 843 w1 = true then if w2 = 108 then if (zA μ 68 0 w1.toNatClampNeg) = 1 then (zpI μ 838 0 3) else (zpA (zpI μ 838 0 0) 67 0 w1.toNatClampNeg w2) else if w2 = 104 then if (zA μ 68 0 w1.toNatClampNeg) = 1 then (zpI μ 838 0 3) else if ¬ (zA μ 64 0 w1.toNatClampNeg) = (-1) then (zpA (zpI μ 838 0 0) 67 0 w1.toNatClampNeg w2) else (zpI μ 838 0 3) else if w2 = 114 then if (zA μ 68 0 w1.toNatClampNeg) = 1 then (zpI μ 838 0 3) else if ¬ (zA μ 64 0 w1.toNatClampNeg) = (-1) then (zpA (zpI μ 838 0 0) 67 0 w1.toNatClampNeg w2) else (zpI μ 838 0 3) else if w2 = 99 then if (zA μ 68 0 w1.toNatClampNeg) = 1 then (zpI μ 838 0 3) else (zpA (zpI μ 838 0 0) 67 0 w1.toNatClampNeg w2) else if w2 = 115 then if (zA μ 68 0 w1.toNatClampNeg) = 1 then (zpI μ 838 0 3) else (zpA (zpI μ 838 0 0) 67 0 w1.toNatClampNeg w2) else (zpI μ 838 0 2) else (zpI μ 838 0 1)
def r_X10_tellCause (μ : zS) (w1 : Int32) (w2 : Int32) : Int32 := if y_has μ 843 w1 = true then if w2 = 108 then if (zA μ 68 0 w1.toNatClampNeg) = 1 then 0 else ((zA (zpI μ 838 0 0) 67 0 w1.toNatClampNeg).toUInt32 % 65536).toInt32 else if w2 = 104 then if (zA μ 68 0 w1.toNatClampNeg) = 1 then 0 else if ¬ (zA μ 64 0 w1.toNatClampNeg) = (-1) then ((zA (zpI μ 838 0 0) 67 0 w1.toNatClampNeg).toUInt32 % 65536).toInt32 else 0 else if w2 = 114 then if (zA μ 68 0 w1.toNatClampNeg) = 1 then 0 else if ¬ (zA μ 64 0 w1.toNatClampNeg) = (-1) then ((zA (zpI μ 838 0 0) 67 0 w1.toNatClampNeg).toUInt32 % 65536).toInt32 else 0 else if w2 = 99 then if (zA μ 68 0 w1.toNatClampNeg) = 1 then 0 else ((zA (zpI μ 838 0 0) 67 0 w1.toNatClampNeg).toUInt32 % 65536).toInt32 else if w2 = 115 then if (zA μ 68 0 w1.toNatClampNeg) = 1 then 0 else ((zA (zpI μ 838 0 0) 67 0 w1.toNatClampNeg).toUInt32 % 65536).toInt32 else 0 else 0
def f_X10_stateOf (μ : zS) (w1 : Int32) : zS := if y_has μ 840 w1 = false then (zpI μ 838 0 1) else (zpI μ 838 0 0)
def r_X10_stateOf (μ : zS) (w1 : Int32) : Int32 := if y_has μ 840 w1 = false then 0 else ((zA (zpI μ 838 0 0) 38 0 w1.toNatClampNeg).toUInt32 % 65536).toInt32
def f_X10_isGrounded (μ : zS) (w1 : Int32) : zS := if y_has μ 840 w1 = false then (f_X10_refuses μ 1) else (f_X10_tells μ (y_down μ w1.toNatClampNeg))
def r_X10_isGrounded (μ : zS) (w1 : Int32) : Bool := if y_has μ 840 w1 = false then r_X10_refuses μ 1 else r_X10_tells μ (y_down μ w1.toNatClampNeg)
def f_X10_isOut (μ : zS) (w1 : Int32) : zS := if y_has μ 840 w1 = false then (f_X10_refuses μ 1) else (f_X10_tells μ (y_old μ w1.toNatClampNeg))
def r_X10_isOut (μ : zS) (w1 : Int32) : Bool := if y_has μ 840 w1 = false then r_X10_refuses μ 1 else r_X10_tells μ (y_old μ w1.toNatClampNeg)
def f_X10_jumps (μ : zS) (w1 : Int32) : zS := if y_has μ 840 w1 = false then (f_X10_fails μ 1) else (f_X10_tell μ (zA μ 42 0 w1.toNatClampNeg))
def r_X10_jumps (μ : zS) (w1 : Int32) : Int32 := if y_has μ 840 w1 = false then r_X10_fails μ 1 else r_X10_tell μ (zA μ 42 0 w1.toNatClampNeg)
def f_X10_packings (μ : zS) (w1 : Int32) : zS := if y_has μ 840 w1 = false then (f_X10_fails μ 1) else (f_X10_tell μ (nI (y_pks μ w1)))
def r_X10_packings (μ : zS) (w1 : Int32) : Int32 := if y_has μ 840 w1 = false then r_X10_fails μ 1 else r_X10_tell μ (nI (y_pks μ w1))
def f_X10_grounds (μ : zS) (w1 : Int32) : zS := zpI μ 838 0 (if y_has μ 843 w1 = true then 0 else 1)
def r_X10_grounds (μ : zS) (w1 : Int32) : Int32 := if y_has μ 843 w1 = true then nI (y_cntG μ w1.toNatClampNeg) else 0
def y_held (μ : zS) : Int64 := zsmL (fun c => if zA μ 38 0 c = 104 then (zA μ 53 0 c).toInt64 else 0) (zn μ 840)
def y_next (μ : zS) : Nat → Int32
  | 0 => -1
  | k + 1 => if zA μ 33 0 k = 114 ∧ zA μ 38 0 k = 107 ∧ y_old μ k = false then (if y_next μ k = -1 ∨ zA μ 57 0 (zA μ 41 0 k).toNatClampNeg < zA μ 57 0 (zA μ 41 0 (y_next μ k).toNatClampNeg).toNatClampNeg then nI k else y_next μ k) else y_next μ k
def f_X10_next (μ : zS) : zS := zpI μ 838 0 (if y_next μ (zn μ 840) = -1 then 1 else 0)
def r_X10_next (μ : zS) : Int32 := if y_next μ (zn μ 840) = -1 then 0 else y_next μ (zn μ 840)