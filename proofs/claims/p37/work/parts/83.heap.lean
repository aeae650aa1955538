section ZLW
variable {p : Program} {l : Launch} {e : Env} {R : Room} {s : State} {m : MethodId} {args : Array Value} {below : List Frame} {meth : Method} {c : Code} {H : Heap} {locs : List Loc} {cells slots : Nat} {Q : State → Prop} {cc : ByteArray} {pc : Nat} {ls : Array Slot} {rest : List Value} {D : va_G} {cy : Nat → ClassId} {rf : Nat → Nat} {own C : String} {idx d n na nL b L r mc ms N dp : Nat} {xs : Nat → Int32} {ak av : Nat → Nat} {A A1 A2 : Nat → Prop} {H0 : Heap} {y : MethodName} {code0 : ByteArray} {ret0 : Option FieldType} {As st0 : List Value} {hh : List (Nat × Nat × Nat × Nat)} {σ ρ δ σ' δ' : zS} {G G' : Heap → Prop}
/-! THE LAW'S HEAP: the object at N, its two lofts and its diary; the deposits at dp -/
def zxa (N : Nat) : Nat → Nat → Nat := adL (N + 1) (N + 2)
def zxb (N : Nat) : Nat → Nat → Nat := adL (N + 169) (N + 170)
def zxd (N : Nat) : Nat → Nat → Nat := adY (N + 337) (N + 338)
def zLA (N : Nat) : Nat → Prop := fun q => N ≤ q
theorem zu_a {q : Nat} (h : zrg (zxa N) zsL q) : N + 1 ≤ q ∧ q < N + 169 := by
  have := zrg_L h
  omega
theorem zu_b {q : Nat} (h : zrg (zxb N) zsL q) : N + 169 ≤ q ∧ q < N + 337 := by
  have := zrg_L h
  omega
theorem zu_d {q : Nat} (h : zrg (zxd N) zsD q) : N + 337 ≤ q ∧ q < N + 339 := by
  have := zrg_Y h
  omega
theorem zu_J : zJ N (zxa N) (zxd N) := ⟨zinj_L (by omega), zinj_Y (by omega), fun q h1 h2 => by have := zu_a h1; have := zu_d h2; omega, fun h => by have := zu_a h; omega, fun h => by have := zu_d h; omega⟩
theorem zu_jb : zinj (zxb N) zsL := zinj_L (by omega)
theorem zu_hd : (∀ q, zrg (zxb N) zsL q → ¬ zrg (zxa N) zsL q) ∧ (∀ q, zrg (zxb N) zsL q → ¬ zrg (zxd N) zsD q) ∧ ¬ zrg (zxb N) zsL N := ⟨fun q h1 h2 => by have := zu_a h2; have := zu_b h1; omega, fun q h1 h2 => by have := zu_b h1; have := zu_d h2; omega, fun h => by have := zu_b h; omega⟩
theorem zu_ra {q : Nat} (h : zRA (zxa N) (zxd N) q) : N + 1 ≤ q ∧ q < N + 339 ∧ ¬ (N + 169 ≤ q ∧ q < N + 337) := by
  rcases h with h | h
  · have := zu_a h; omega
  · have := zu_d h; omega
/-- the deposits -/
def zDp (D : va_G) (cy : Nat → ClassId) (dp : Nat) (V : Nat → Int64) (H : Heap) : Prop := va_at D zcl (dp, .inl (cy 5, 8, .inr (.inl V))) H
/-- a law's method's region: the object's own, and the deposits -/
def zRD (N dp : Nat) : Nat → Prop := fun q => zRA (zxa N) (zxd N) q ∨ q = dp
/-- a law's method's start -/
def zBL (D : va_G) (cy : Nat → ClassId) (rf : Nat → Nat) (N b L : Nat) (xs : Nat → Int32) (ak av : Nat → Nat) (G : Heap → Prop) : State → Prop := fun U => zK D cy U ∧ zE rf (zLA N) U U.heap ∧ zNc U ∧ (va_X b L xs U U.heap ∧ b < N) ∧ zSt ak av (zLA N) U U.heap ∧ (vk_R "SilkloftLaw" 204 "lhrcs" (ak 0) U ∧ vk_R "SilkloftLaw" 225 "opkah" (ak 1) U) ∧ G U.heap
theorem zblindL (U : State) (g : JFrame) (mk : MethodId) (a : Array Value) (q : zBL D cy rf N b L xs ak av G U) : zBL D cy rf N b L xs ak av G (U.calling g mk a) := ⟨zK.moved (u := U) (U := U.calling g mk a) (Vm.Alike.refl U.vm) q.1, zE.same (u := U) (U := U.calling g mk a) rfl q.2.1, zNc.moved (u := U) (U := U.calling g mk a) (Vm.Alike.refl U.vm) q.2.2.1, ⟨va_X.moved (u := U) (U := U.calling g mk a) (Vm.Alike.refl U.vm) q.2.2.2.1.1, q.2.2.2.1.2⟩, zSt.moved (u := U) (U := U.calling g mk a) (Vm.Alike.refl U.vm) q.2.2.2.2.1, ⟨vk_R.same (u := U) (U := U.calling g mk a) rfl q.2.2.2.2.2.1.1, vk_R.same (u := U) (U := U.calling g mk a) rfl q.2.2.2.2.2.1.2⟩, q.2.2.2.2.2.2⟩
theorem zpreSL (hK : zK D cy s) (hE : zE rf (zLA N) s H) (hN : zNc s) (hX : va_X b L xs s H) (hb : b < N) (hT : zSt ak av (zLA N) s H) (hV : vk_R "SilkloftLaw" 204 "lhrcs" (ak 0) s ∧ vk_R "SilkloftLaw" 225 "opkah" (ak 1) s) (hG : G H) : PreS s H (va_Pc As (zBL D cy rf N b L xs ak av G)) As := ⟨fun a U g mk q => ⟨q.1, zblindL U g mk a q.2⟩, fun U hU hW => ⟨rfl, zK.moved hW.alike hK, by rw [hU]; exact zE.warm hW hE, zNc.moved hW.alike hN, ⟨by rw [hU]; exact va_X.moved hW.alike hX, hb⟩, by rw [hU]; exact zSt.moved hW.alike hT, ⟨vk_R.warm hW hV.1, vk_R.warm hW hV.2⟩, by rw [hU]; exact hG⟩⟩
/-- what a law's method knows at its entry; all of it stands as long as cells from N on alone are written -/
def zCx (s : State) (D : va_G) (cy : Nat → ClassId) (rf : Nat → Nat) (N b L : Nat) (xs : Nat → Int32) (ak av : Nat → Nat) : Prop := zK D cy s ∧ zE rf (zLA N) s s.heap ∧ zNc s ∧ (va_X b L xs s s.heap ∧ b < N) ∧ zSt ak av (zLA N) s s.heap ∧ vk_R "SilkloftLaw" 204 "lhrcs" (ak 0) s ∧ vk_R "SilkloftLaw" 225 "opkah" (ak 1) s
theorem zBL.cx (h : zBL D cy rf N b L xs ak av G s) : zCx s D cy rf N b L xs ak av ∧ G s.heap := ⟨⟨h.1, h.2.1, h.2.2.1, h.2.2.2.1, h.2.2.2.2.1, h.2.2.2.2.2.1⟩, h.2.2.2.2.2.2⟩
theorem va_X.lt {U : State} (h : va_X b L xs U H) : b < H.size := by
  obtain ⟨scr, h1, -⟩ := h
  exact (Array.getElem?_eq_some_iff.mp h1).1
theorem zpreCx (C0 : zCx s D cy rf N b L xs ak av) (hS : va_S A s.heap H locs) (hA : ∀ q, A q → zLA N q) (hG : G H) : PreS s H (va_Pc As (zBL D cy rf N b L xs ak av G)) As := by
  obtain ⟨hK, hE, hN, ⟨hX, hbN⟩, hT, hV⟩ := C0
  have k : ∀ a : Nat, a < s.heap.size → ¬ zLA N a → H[a]? = s.heap[a]? := fun a h1 h2 => hS.2.1 a h1 (fun z => h2 (hA a z))
  exact zpreSL hK (hE.kept k) hN (hX.kept (k b hX.lt (Nat.not_le.mpr hbN))) hbN (hT.kept k) hV hG
theorem zcwSL (ht : ∀ w ∈ lw_all, w.before args s = true) (hm : zmS y C code0 n ret0 na) (hl : Cond.methodLink own idx y ∈ lw_all) (hR : d + 1 ≤ R.frames ∧ 40 * (d + 1) ≤ R.locals) (hn : n ≤ 21) : CallB R s args own idx y code0 n ret0 (zw y code0 n ret0) (zrx d mc ms) mc ms na ∧ (Cond.static y).before args s = true := by
  obtain ⟨h1, hini, hco, rfl, h6, h7, h8⟩ := hm
  refine ⟨callB_of na ht (fun w hw => ?_) rfl rfl rfl (ht _ hini) (ht _ hl) ⟨h6, h7, h8⟩ ⟨hR.1, ?_⟩, ht _ h1⟩
  · rcases List.mem_cons.mp hw with rfl | hw
    · exact ⟨hco, lw_good hco⟩
    · exact ⟨hw, lw_good hw⟩
  · show 8 + (n + 11) + 40 * d ≤ R.locals
    omega
/-- the law calls a method of its own -/
theorem zcallL {v : Option Value} {rest : List Value} (X : zX p m c s args own cc) (hml : c.maxLocals = nL) (C0 : zCx s D cy rf N b L xs ak av) (hA0 : ∀ q, A q → zLA N q) (hG : G H) (hM : Met l y (zw y code0 n ret0) (zrx d mc ms) (va_Pc As (zBL D cy rf N b L xs ak av G)) (zqM v G' A1) mc ms A1) (hm : zmS y C code0 n ret0 na) (hn : n ≤ 21) (hl : Cond.methodLink own idx y ∈ lw_all) (hR : d + 1 ≤ R.frames ∧ 40 * (d + 1) ≤ R.locals) (hcs : cells + mc ≤ R.cells ∧ slots + ms ≤ R.slots) (hna : As.length = na) (hls : ls.size = nL) (hst : st0 = As.reverse ++ rest) (hrm : (rest.map fun v => v.category).sum ≤ 8) (hd : decode cc pc = .ok (.invokestatic idx, 3)) (hS : va_S A s.heap H locs) (hA : ∀ q, A1 q → A q)
    (kk : ∀ (H1 : Heap) (locs1 : List Loc), G' H1 → H.size ≤ H1.size → (∀ q, q < H.size → ¬ A1 q → H1[q]? = H[q]?) → va_S A s.heap H1 locs1 → W p l e R s m args below meth c H1 locs1 (cells + mc) (slots + ms) Q (F0 m (pc + 3) ls (v.toList ++ rest))) : W p l e R s m args below meth c H locs cells slots Q (F0 m pc ls st0) :=
  zcMx (va_runS ⟨X.1, X.2.1, hml, X.2.2.1, X.2.2.2⟩ hM (zcwSL X.2.2.2 hm hl hR hn) (zpreCx C0 hS hA0 hG) rfl hna hls hst (lv_room hrm) hd hcs) hS hA kk
/-- a method of the law that changes and makes nothing -/
theorem zcallLR {v : Value} {rest : List Value} (X : zX p m c s args own cc) (hml : c.maxLocals = nL) (C0 : zCx s D cy rf N b L xs ak av) (hA0 : ∀ q, A q → zLA N q) (hG : G H) (hM : Met l y (zw y code0 n ret0) (zrm d) (va_Pc As (zBL D cy rf N b L xs ak av G)) (zqR v) 0 0 (fun _ => False)) (hm : zmS y C code0 n ret0 na) (hn : n ≤ 21) (hl : Cond.methodLink own idx y ∈ lw_all) (hR : d + 1 ≤ R.frames ∧ 40 * (d + 1) ≤ R.locals) (hcs : cells ≤ R.cells ∧ slots ≤ R.slots) (hna : As.length = na) (hls : ls.size = nL) (hst : st0 = As.reverse ++ rest) (hrm : (rest.map fun v => v.category).sum ≤ 8) (hd : decode cc pc = .ok (.invokestatic idx, 3)) (hS : va_S A s.heap H locs)
    (kk : W p l e R s m args below meth c H locs cells slots Q (F0 m (pc + 3) ls (v :: rest))) : W p l e R s m args below meth c H locs cells slots Q (F0 m pc ls st0) :=
  zcR (W.runS ⟨X.1, X.2.1, hml, X.2.2.1, X.2.2.2⟩ hM (zcwS X.2.2.2 hm hl hR hn) (zpreCx C0 hS hA0 hG) rfl hna hls hst (lv_room hrm) hd hcs) kk
/-- the law calls a helper -/
theorem zlW {v : Option Value} {rest : List Value} (X : zX p m c s args own cc) (hml : c.maxLocals = nL) (C0 : zCx s D cy rf N b L xs ak av) (hA0 : ∀ q, A q → zLA N q) (hG : G H) (hM : Met l y (zww y code0 n ret0 hh) (zrx d mc ms) (va_Pc As (zBN D cy rf G)) (zqM v G' A1) mc ms A1) (hm : zmW y C code0 n ret0 hh na) (hn : n ≤ 21) (hl : Cond.methodLink own idx y ∈ lw_all) (hR : d + 1 ≤ R.frames ∧ 40 * (d + 1) ≤ R.locals) (hcs : cells + mc ≤ R.cells ∧ slots + ms ≤ R.slots) (hna : As.length = na) (hls : ls.size = nL) (hst : st0 = As.reverse ++ rest) (hrm : (rest.map fun v => v.category).sum ≤ 8) (hd : decode cc pc = .ok (.invokestatic idx, 3)) (hS : va_S A s.heap H locs) (hA : ∀ q, A1 q → A q)
    (kk : ∀ (H1 : Heap) (locs1 : List Loc), G' H1 → H.size ≤ H1.size → (∀ q, q < H.size → ¬ A1 q → H1[q]? = H[q]?) → va_S A s.heap H1 locs1 → W p l e R s m args below meth c H1 locs1 (cells + mc) (slots + ms) Q (F0 m (pc + 3) ls (v.toList ++ rest))) : W p l e R s m args below meth c H locs cells slots Q (F0 m pc ls st0) :=
  zcallW X hml C0.1 (C0.2.1.kept (fun a h1 h2 => hS.2.1 a h1 (fun z => h2 (hA0 a z)))) C0.2.2.1 hG hM hm hn hl hR hcs hna hls hst hrm hd hS hA kk
/-- the law asks the object itself for a long -/
theorem zlV {k : Int64} {rest : List Value} (X : zX p m c s args own cc) (hml : c.maxLocals = nL) (C0 : zCx s D cy rf N b L xs ak av) (hA0 : ∀ q, A q → zLA N q) (hG : zSA D cy N (zxb N 0 0) (zxa N) σ (zxd N) δ H) (hM : vx_Met l y (zw y code0 n ret0) (zrx d mc ms) (va_Pc [.ref N] (zBE D cy rf (zSA D cy N (zxb N 0 0) (zxa N) σ (zxd N) δ))) (zxQ 0 (some (.long k)) (zSA D cy N (zxb N 0 0) (zxa N) σ (zxd N) δ) (fun _ => False)) (zxC 0) mc ms (fun _ => False)) (hm : zmV y RX9 code0 n ret0 0) (hn : n ≤ 21) (hl : Cond.methodLink own idx y ∈ lw_all) (hR : d + 1 ≤ R.frames ∧ 40 * (d + 1) ≤ R.locals) (hcs : cells + mc ≤ R.cells ∧ slots + ms ≤ R.slots) (hls : ls.size = nL) (hrm : (rest.map fun v => v.category).sum ≤ 8) (hd : decode cc pc = .ok (.invokevirtual idx, 3)) (hS : va_S A s.heap H locs)
    (kk : ∀ (H1 : Heap) (locs1 : List Loc), zSA D cy N (zxb N 0 0) (zxa N) σ (zxd N) δ H1 → H.size ≤ H1.size → (∀ q, q < H.size → H1[q]? = H[q]?) → va_S A s.heap H1 locs1 → W p l e R s m args below meth c H1 locs1 (cells + mc) (slots + ms) Q (F0 m (pc + 3) ls (.long k :: rest))) : W p l e R s m args below meth c H locs cells slots Q (F0 m pc ls (.ref N :: rest)) :=
  zcallCV (As := []) (rest := rest) X hml C0.1 (C0.2.1.kept (fun a h1 h2 => hS.2.1 a h1 (fun z => h2 (hA0 a z)))) hG hM hm hn hl (zrecv C0.1 hG.1 rfl) hR hcs rfl hls rfl hrm hd hS (fun _ h => h.elim) (fun _ _ _ _ _ hr0 _ _ _ _ _ _ _ => absurd rfl hr0) (fun _ H1 locs1 h1 h2 h3 h4 => kk H1 locs1 h1 h2 (fun q hq => h3 q hq (fun z => z)) h4)
/-! cell and pick -/
def lcell (L : Nat) (xs : Nat → Int32) (k : Nat) : Int32 := if k < L then xs k else 40503 * nI k
def lpick (L : Nat) (xs : Nat → Int32) (k n : Nat) : Nat := ((lcell L xs k).toUInt32 >>> 1).toInt32.toNatClampNeg % n
theorem ushr1 (x : Int32) : ∃ j, j < 2 ^ 31 ∧ (x.toUInt32 >>> ((1 : Int32).toUInt32 &&& Int32.toUInt32 31)).toInt32 = nI j ∧ (x.toUInt32 >>> 1).toInt32 = nI j := by
  have e : (1 : Int32).toUInt32 &&& Int32.toUInt32 31 = 1 := by decide
  rw [e]
  have hlt : (x.toUInt32 >>> 1).toNat < 2 ^ 31 := by
    rw [UInt32.toNat_shiftRight]
    have := x.toUInt32.toNat_lt
    show x.toUInt32.toNat >>> ((1 : UInt32).toNat % 32) < _
    rw [show (1 : UInt32).toNat % 32 = 1 from rfl, Nat.shiftRight_eq_div_pow]
    omega
  refine ⟨(x.toUInt32 >>> 1).toNat, hlt, ?_, ?_⟩ <;>
  · refine Int32.toBitVec_inj.mp ?_
    show (x.toUInt32 >>> 1).toBitVec = BitVec.ofNat 32 (x.toUInt32 >>> 1).toNat
    exact (BitVec.ofNat_toNat _ _).symm ▸ (BitVec.setWidth_eq _).symm
theorem lpick_lt (n : Nat) (h : 0 < n) (k : Nat) : lpick L xs k n < n := Nat.mod_lt _ h
theorem zmL_cell : zmS yL_cell RL cL_cell 2 (some .int) 2 := ⟨m_641, m_0, m_642, rfl, by decide, by decide, by decide +kernel⟩
set_option maxRecDepth 100000 in
set_option maxHeartbeats 4000000 in
theorem ctL_cell (l : Launch) (D : va_G) (cy : Nat → ClassId) (rf : Nat → Nat) (N b L : Nat) (xs : Nat → Int32) (ak av : Nat → Nat) (hL : L < 2 ^ 31) (k : Nat) (hk : k < 2 ^ 31) : Met l yL_cell (zw yL_cell cL_cell 2 (some .int)) (zrm 0) (va_Pc [.ref b, .int (nI k)] (zBL D cy rf N b L xs ak av (fun _ => True))) (zqR (.int (lcell L xs k))) 0 0 (fun _ => False) := by
  refine zmet (by decide) rfl (Nat.le_of_ble_eq_true rfl) rfl (fun p e s m below meth c ls X hml hr hlocks hv hl => ?_)
  obtain ⟨hK, hE, hN, ⟨hX, hbN⟩, -⟩ := hv
  obtain ⟨hx, hb, -, -⟩ := id X
  have hl : lv_has ls 2 [(0, .ref b), (1, .int (nI k))] := hl
  have hF : ¬ (fun _ : Nat => False) b := fun z => z
  refine lv_iload_n hx hb dL_cell_0 rfl (lv_at hl 1 rfl) ?_
  refine lv_aload_n hx hb dL_cell_1 rfl (lv_at hl 0 rfl) ?_
  refine va_slen (A := fun _ => False) hx hb hX hX.lt hF va_S.rf dL_cell_2 ?_
  refine lv_icmp_ge (tgt := 12) hx hb dL_cell_3 (by decide) (fun b1 => ?_) (fun b1 => ?_)
  · have b1 : nI L ≤ nI k := b1
    have hkL : ¬ k < L := fun z => by have := (nI_leI hL hk).mp b1; omega
    refine lv_ldc hx hb X.2.2.1 (X.2.2.2 _ m_643) dL_cell_12 ?_
    refine lv_iload_n hx hb dL_cell_14 rfl (lv_at hl 1 rfl) ?_
    refine lv_imul hx hb dL_cell_15 ?_
    exact ze_i hx hb hr hlocks (by unfold lcell; rw [if_neg hkL]) dL_cell_16
  · have b1 : ¬ nI L ≤ nI k := b1
    have hkL : k < L := znlt hL hk b1
    refine lv_aload_n hx hb dL_cell_6 rfl (lv_at hl 0 rfl) ?_
    refine lv_iload_n hx hb dL_cell_7 rfl (lv_at hl 1 rfl) ?_
    refine va_sld (A := fun _ => False) hx hb hX hX.lt hF va_S.rf (vp_in_nI hkL hL) dL_cell_8 ?_
    refine lv_goto (tgt := 16) hx hb dL_cell_9 (by decide) ?_
    exact ze_i hx hb hr hlocks (by unfold lcell; rw [if_pos hkL, nI_clamp hk]) dL_cell_16
theorem zmL_pick : zmS yL_pick RL cL_pick 3 (some .int) 3 := ⟨m_638, m_0, m_639, rfl, by decide, by decide, by decide +kernel⟩
set_option maxRecDepth 100000 in
set_option maxHeartbeats 4000000 in
theorem ctL_pick (l : Launch) (D : va_G) (cy : Nat → ClassId) (rf : Nat → Nat) (N b L : Nat) (xs : Nat → Int32) (ak av : Nat → Nat) (hL : L < 2 ^ 31) (k : Nat) (hk : k < 2 ^ 31) (n : Nat) (hn0 : 0 < n) (hn : n < 2 ^ 31) : Met l yL_pick (zw yL_pick cL_pick 3 (some .int)) (zrm 1) (va_Pc [.ref b, .int (nI k), .int (nI n)] (zBL D cy rf N b L xs ak av (fun _ => True))) (zqR (.int (nI (lpick L xs k n)))) 0 0 (fun _ => False) := by
  refine zmet (by decide) rfl (Nat.le_of_ble_eq_true rfl) rfl (fun p e s m below meth c ls X hml hr hlocks hv hl => ?_)
  obtain ⟨C0, -⟩ := zBL.cx hv
  obtain ⟨hx, hb, -, -⟩ := id X
  have hl : lv_has ls 3 [(0, .ref b), (1, .int (nI k)), (2, .int (nI n))] := hl
  refine lv_aload_n hx hb dL_pick_0 rfl (lv_at hl 0 rfl) ?_
  refine lv_iload_n hx hb dL_pick_1 rfl (lv_at hl 1 rfl) ?_
  refine zcallLR (As := [.ref b, .int (nI k)]) (rest := []) X hml C0 (A := fun _ => False) (fun _ h => h.elim) trivial (ctL_cell l D cy rf N b L xs ak av hL k hk) zmL_cell (by decide) m_640 ⟨Nat.le_of_ble_eq_true rfl, Nat.le_of_ble_eq_true rfl⟩ ⟨Nat.le_of_ble_eq_true rfl, Nat.le_of_ble_eq_true rfl⟩ rfl hl.1 rfl (Nat.le_of_ble_eq_true rfl) dL_pick_2 va_S.rf ?_
  obtain ⟨j, hj, e1, e2⟩ := ushr1 (lcell L xs k)
  refine lv_iconst (v := 1) hx hb dL_pick_5 (by decide) ?_
  refine lv_iushr (v := nI j) hx hb dL_pick_6 e1 ?_
  refine lv_iload_n hx hb dL_pick_7 rfl (lv_at hl 2 rfl) ?_
  refine lv_irem hx hb dL_pick_8 (nI_ne0 hn0 hn) ?_
  exact ze_i hx hb hr hlocks (by unfold lpick; rw [e2, nI_clamp hj]; exact pk_rem hj hn0 hn) dL_pick_9
end ZLW
