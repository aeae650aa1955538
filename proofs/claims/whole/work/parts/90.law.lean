/-! THE CLAIM OUT OF ONE WALK OF THE LAW'S BODY. Your part is whole_start (and what it stands on); all else here is the same for every law, but numbers. -/
def R_law : String := "SilkloftLaw"
def lw_P (b : Addr) (xs : List Int32) (args : Array Value) (s : State) : Prop := args = #[.ref b] ∧ s.IntsAt b xs ∧ xs.length ≤ 2560 ∧ (Jvm.Cond.and given_1 narrow_1).before args s = true
/-- what a walk over the start with the record d0 says of its end, said of the start itself -/
theorem lw_closed {s t : State} {o : Outcome} {d0 : Drawn} {L : List Loc} {k n : Nat} (hd0 : s.drawn.sameBut d0 lw_cs) (hv : ∃ v, o = .returned v) (hW : (s.setDrawn d0).WarmedH t.vm) (hs : (s.setDrawn d0).sameButNew ({ t with vm := s.vm } : State) L k n) : State.butDraws s t lw_cs (fun t1 => Framed s o t1 L k n) := by
  have h2 : t.drawn = d0 := congrArg State.drawn hs.1
  refine ⟨⟨hv, hW, State.sameButNew.setDrawn hs s.drawn⟩, ?_, by decide⟩
  rw [h2]
  exact hd0
def lw_Q (_ : Array Value) (s : State) (o : Outcome) (t : State) : Prop := o = .returned (some (.int 1)) ∧ State.butDraws s t lw_cs (fun t1 => Framed s o t1 [] 603072 7223402)
def lw_Z (below : List Frame) (a : Array Value) (s : State) : State → Prop := fun t => ∃ o, t.status = .running ∧ Ended t below o ∧ lw_Q a s o t
/-- the law's own end, with 1 on the stack, nothing written that was there before, its room as the claim has it; d0: the record of draws at this point (at the entry s.drawn: begin with 'refine W.base ?_' and 'have hd0 := Drawn.sameBut.refl s.drawn lw_cs') -/
theorem lw_ret {p : Program} {l : Launch} {e : Env} {s : State} {m : MethodId} {below : List Frame} {meth : Method} {c : Code} {b : Nat} {d0 : Drawn} (hd0 : s.drawn.sameBut d0 lw_cs) (hx : p.tables.exec = Jvm.exec) (hb : c.code = code) (hr : meth.sig.returnType = ret) (hlocks : meth.locks = false) {pc : Nat} {H : Heap} {ls : Array Slot} (hdg : decode code pc = .ok (.ireturn, 1)) : W p l e room_1 (s.setDrawn d0) m #[Value.ref b] below meth c H [] 603072 7223402 (lw_Z below #[Value.ref b] s) (F0 m pc ls [.int 1]) := by
  intro T hT X
  obtain ⟨fs, hret, hrun, hended, hW, hframe⟩ := X.leave (v := some (.int 1)) (hlocks := hlocks) (fun h => by rw [hr] at h; cases h)
  have hmeth' : T.vm.method? m = some meth := X.method'
  refine ⟨T.setFrames fs, ?_, .returned (some (.int 1)), hrun, hended, rfl, lw_closed hd0 ⟨_, rfl⟩ hW hframe⟩
  jvm_step X.here [X.here.top, hx, hb, hdg, hmeth', hr, ret, narrow_b1]
  (try refine ⟨rfl, ?_⟩); (try refine ⟨rfl, ?_⟩)
  first | (intro acts; rw [hret _ acts rfl rfl rfl]) | rw [hret _ _ rfl rfl rfl]
  exact Steps.refl _
/-- what holds at the law's entry: the machine, the code, the tables' words (any of lw_tbl by 'hts w (by decide +kernel)'), the script of L ints xs at the cell b, what the Statement gives of the start (any of its parts by flat_of_before) -/
def lw_At (p : Program) (s : State) (m : MethodId) (meth : Method) (c : Code) (b L : Nat) (xs : Nat → Int32) : Prop :=
  p.tables.exec = Jvm.exec ∧ c.code = code ∧ meth.sig.returnType = ret ∧ c.maxLocals = 9 ∧ s.vm.findClass R_law = some m.cls ∧ (∀ w ∈ lw_tbl, w.before #[Value.ref b] s = true) ∧ va_X b L xs s s.heap ∧ b < s.heap.size ∧ meth.locks = false ∧ (Jvm.Cond.and given_1 narrow_1).before #[Value.ref b] s = true
theorem whole_open {p : Program} {e : Env} {s : State} {m : MethodId} {below : List Frame} {meth : Method} {c : Code} (l : Launch) (hflags : l.flags = flags0) {b L : Nat} {xs : Nat → Int32} (hL : L ≤ 2560) (C0 : lw_At p s m meth c b L xs) (h31 : (∀ (D : va_G) (cy : Nat → ClassId) (rf : Nat → Nat) (i : Int32) (H : Heap) (locs : List Loc) (ls : Array Slot) (σ ρ δ μ τ : zS) (w : Int64) (v : UInt64) (cells slots : Nat), zlC p l s m c #[Value.ref b] D cy rf s.heap.size b L xs s.heap → (∀ j : Int32, j = 1 ∨ j = 2 ∨ j = 3 ∨ j = 4 → vp_in (i + j) L) → zLH D cy s.heap.size σ ρ δ μ w v H → zsim σ μ τ → ymod μ τ → zhist δ μ τ → zn τ 512 < 512 → va_S (zLA s.heap.size) s.heap H locs → lv_has ls 9 [(5, .int i), (4, .ref (s.heap.size + 379)), (3, .ref (s.heap.size + 378)), (2, .ref (zxm s.heap.size 30 0)), (1, .ref s.heap.size), (0, .ref b)] → cells + 2 ≤ 603072 ∧ slots + 12 ≤ 7223402 → zlK p l e s m #[Value.ref b] below meth c (lw_Z below #[Value.ref b] s) D cy s.heap.size b i s.heap (zn τ 512 + 1) (cells + 2) (slots + 12) → W p l e room_1 s m #[Value.ref b] below meth c H locs cells slots (lw_Z below #[Value.ref b] s) (F0 m 2139 ls []))) (h32 : (∀ (D : va_G) (cy : Nat → ClassId) (rf : Nat → Nat) (i : Int32) (H : Heap) (locs : List Loc) (ls : Array Slot) (σ ρ δ μ τ : zS) (w : Int64) (v : UInt64) (cells slots : Nat), zlC p l s m c #[Value.ref b] D cy rf s.heap.size b L xs s.heap → (∀ j : Int32, j = 1 ∨ j = 2 ∨ j = 3 ∨ j = 4 → vp_in (i + j) L) → zLH D cy s.heap.size σ ρ δ μ w v H → zsim σ μ τ → ymod μ τ → zhist δ μ τ → zn τ 512 < 512 → va_S (zLA s.heap.size) s.heap H locs → lv_has ls 9 [(5, .int i), (4, .ref (s.heap.size + 379)), (3, .ref (s.heap.size + 378)), (2, .ref (zxm s.heap.size 30 0)), (1, .ref s.heap.size), (0, .ref b)] → cells + 2 ≤ 603072 ∧ slots + 12 ≤ 7223402 → zlK p l e s m #[Value.ref b] below meth c (lw_Z below #[Value.ref b] s) D cy s.heap.size b i s.heap (zn τ 512 + 1) (cells + 2) (slots + 12) → W p l e room_1 s m #[Value.ref b] below meth c H locs cells slots (lw_Z below #[Value.ref b] s) (F0 m 2205 ls []))) : W p l e room_1 s m #[Value.ref b] below meth c s.heap [] 0 0 (lw_Z below #[Value.ref b] s) (entryFrame m ([Value.ref b] : List Value).toArray 9) := by
  obtain ⟨hx, hb, hr, hml, hown, hts, hX, hbl, hlocks, hgv⟩ := id C0
  have hl := lv_entry ([.ref b]) (n := 9) (Nat.le_of_ble_eq_true rfl)
  rw [lg_entry_eq]
  generalize (lg_sl ([.ref b]) ++ List.replicate (9 - (lg_sl ([.ref b])).length) Slot.unset).toArray = ls at hl ⊢
  have hl : lv_has ls 9 [(0, .ref b)] := hl
  have X : zX p m c s #[Value.ref b] RL code := ⟨hx, hb, hown, fun w h => hts w (lw_in h)⟩
  obtain ⟨D, cy, hK⟩ := zs_K hts
  obtain ⟨rf, hE⟩ := zs_E (A := zLA s.heap.size) hgv hts (fun a h => Nat.not_le.mpr h)
  refine zl_start (N := s.heap.size) rfl X hml D cy rf hK (zs_P hts) hE (zs_N hgv) hX hbl hL ?_ h31 h32 (fun H locs ls cells slots hS hc hs => ?_) hl
  · unfold Launch.stackTraces
    rw [hflags]
    decide +kernel
  · refine W.forget (locs := []) (L := locs) (fun q hq => hS.2.2 q hq) ?_
    refine W.widen (k := 603072) (n := 7223402) (by omega) (by omega) ?_
    refine W.base ?_
    refine lv_iconst (v := 1) hx hb dL_law_2289 (by decide) ?_
    exact lw_ret (Drawn.sameBut.refl s.drawn lw_cs) hx hb hr hlocks dL_law_2290
theorem whole_start {p : Program} {e : Env} {s : State} {m : MethodId} {below : List Frame} {meth : Method} {c : Code} (l : Launch) (hflags : l.flags = flags0) {b L : Nat} {xs : Nat → Int32} (hL : L ≤ 2560) (C0 : lw_At p s m meth c b L xs) : W p l e room_1 s m #[Value.ref b] below meth c s.heap [] 0 0 (lw_Z below #[Value.ref b] s) (entryFrame m ([Value.ref b] : List Value).toArray 9) :=
  whole_open l hflags hL C0 (fun D cy rf i H locs ls σ ρ δ μ τ w v cells slots C hin hL sim mod his hN hS hl hcs kk => zcs_31 C hin hL sim mod his hN hS hl hcs kk) (fun D cy rf i H locs ls σ ρ δ μ τ w v cells slots C hin hL sim mod his hN hS hl hcs kk => zcs_32 C hin hL sim mod his hN hS hl hcs kk)
