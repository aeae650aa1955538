section ZLX
variable {p : Program} {l : Launch} {e : Env} {R : Room} {s : State} {m : MethodId} {args : Array Value} {below : List Frame} {meth : Method} {c : Code} {H : Heap} {locs : List Loc} {cells slots : Nat} {Q : State → Prop} {cc : ByteArray} {pc : Nat} {ls : Array Slot} {rest : List Value} {D : va_G} {cy : Nat → ClassId} {rf : Nat → Nat} {own C : String} {idx d n na nL b r mc ms N : Nat} {A A1 A2 : Nat → Prop} {H0 : Heap} {y : MethodName} {code0 : ByteArray} {ret0 : Option FieldType} {As st0 : List Value} {σ ρ δ μ σ' δ' μ' τ ρ' : zS} {w w' : Int64} {v v' : UInt64} {G : Heap → Prop}
set_option maxRecDepth 100000 in
set_option maxHeartbeats 4000000 in
theorem ctX10_stepN (l : Launch) (D : va_G) (cy : Nat → ClassId) (ad : Nat → Nat → Nat) (μ : zS) (hj : zinj ad zsM) (w1 : Int32) (w2 : Int32) (hV : yV μ) (hno : y_has μ 840 w1 = false) : Met l yX10_step (zw yX10_step cX10_step 3 (some .int)) (zrm 2) (va_Pc [.ref (ad 30 0), .int w1, .int w2] (zB D cy (zW D cy ad zsM μ))) (zqM (some (.int (r_X10_step μ w1 w2))) (zW D cy ad zsM (f_X10_step μ w1 w2)) (zrg ad zsM)) 0 0 (zrg ad zsM) := by
  refine zmet (by decide) rfl (Nat.le_of_ble_eq_true rfl) rfl (fun p e s m below meth c ls X hml hr hlocks hv hl => ?_)
  obtain ⟨hK, hW⟩ := hv
  obtain ⟨hx, hb, -, -⟩ := id X
  have hl : lv_has ls 3 [(0, .ref (ad 30 0)), (1, .int w1), (2, .int w2)] := hl
  have hS : va_S (zrg ad zsM) s.heap s.heap [] := va_S.rf
  generalize hAe : zrg ad zsM = A at hS ⊢
  have hA : ∀ q, zrg ad zsM q → A q := fun q h => by rw [← hAe]; exact h
  refine lv_aload_n hx hb dX10_step_0 rfl (lv_at hl 0 rfl) ?_
  refine lv_iload_n hx hb dX10_step_1 rfl (lv_at hl 1 rfl) ?_
  refine zcallRV (As := [.int w1]) (rest := []) X hml hK hW (ctX10_isCanopy l D cy ad μ w1) zmX10_isCanopy (by decide) m_1294 (zrecv hK (hW 30 0 rfl (by decide)) rfl) ⟨Nat.le_of_ble_eq_true rfl, Nat.le_of_ble_eq_true rfl⟩ ⟨Nat.zero_le _, Nat.zero_le _⟩ rfl hl.1 rfl (Nat.le_of_ble_eq_true rfl) dX10_step_2 ?_
  refine zb_eq (tgt := 16) hx hb dX10_step_5 (by decide) (fun b1 => ?_) (fun b1 => absurd (hno.symm.trans b1) (by decide))
  · refine lv_aload_n hx hb dX10_step_16 rfl (lv_at hl 0 rfl) ?_
    refine lv_iconst (v := 1) hx hb dX10_step_17 (by decide) ?_
    refine zcallMV (As := [.int 1]) (rest := []) X hml hK hW (ctX10_fails l D cy ad μ hj 1) zmX10_fails (by decide) m_1262 (zrecv hK (hW 30 0 rfl (by decide)) rfl) ⟨Nat.le_of_ble_eq_true rfl, Nat.le_of_ble_eq_true rfl⟩ ⟨Nat.zero_le _, Nat.zero_le _⟩ rfl hl.1 rfl (Nat.le_of_ble_eq_true rfl) dX10_step_18 hS hA (fun H locs hW hsz hfr hS => ?_)
    exact zm_i hx hb hr hlocks (by rw [r_X10_step, if_pos b1]) (by rw [f_X10_step, if_pos b1]; exact hW) hS dX10_step_21
theorem ctX10_stepM (l : Launch) (D : va_G) (cy : Nat → ClassId) (ad : Nat → Nat → Nat) (μ : zS) (hj : zinj ad zsM) (w1 : Int32) (w2 : Int32) (hV : yV μ) (hD : y_has μ 840 w1 = true → zA μ 38 0 w1.toNatClampNeg = 112 → vp_in (zA μ 40 0 w1.toNatClampNeg) 5) : Met l yX10_step (zw yX10_step cX10_step 3 (some .int)) (zrm 2) (va_Pc [.ref (ad 30 0), .int w1, .int w2] (zB D cy (zW D cy ad zsM μ))) (zqM (some (.int (r_X10_step μ w1 w2))) (zW D cy ad zsM (f_X10_step μ w1 w2)) (zrg ad zsM)) 0 0 (zrg ad zsM) := by
  by_cases h : y_has μ 840 w1 = true
  · exact ctX10_step l D cy ad μ hj w1 w2 hV (hD h)
  · exact ctX10_stepN l D cy ad μ hj w1 w2 hV (by cases z : y_has μ 840 w1 with | true => exact absurd z h | false => rfl)
theorem zl_hD (hm : ymod μ τ) (x : Int32) : y_has μ 840 x = true → zA μ 38 0 x.toNatClampNeg = 112 → vp_in (zA μ 40 0 x.toNatClampNeg) 5 := by
  intro h1 h2
  obtain ⟨mn, md, ms, mw, mk, mp, ml, mx, mf, mz, t0, tc, tf, tx, mb⟩ := id hm
  obtain ⟨b1, b2, b3, b4, b5⟩ := id mn
  obtain ⟨c, hc1, rfl⟩ := yhas_lt b2 (by decide) h1
  have := b2.2
  rw [nI_clamp (by omega)] at h2 ⊢
  obtain ⟨-, k, hk, ek, -⟩ := mw c hc1 h2
  rw [ek]
  exact vp_in_nI (by omega) (by decide)
/-- the class is asked, and nothing that was there changes -/
theorem zlCx {k : Value} (X : zX p m c s args own cc) (hml : c.maxLocals = nL) (hK : zK D cy s) (hE : zE rf (zLA N) s H0) (hL : zLH D cy N σ ρ δ μ w v H) (hM : vx_Met l y (zw y code0 n ret0) (zrx d mc ms) (va_Pc [.ref N] (zBE D cy rf (zSA D cy N (zxb N 0 0) (zxa N) σ (zxd N) δ))) (zxQ 0 (some k) (zSA D cy N (zxb N 0 0) (zxa N) σ (zxd N) δ) (fun _ => False)) (zxC 0) mc ms (fun _ => False)) (hm : zmV y RX9 code0 n ret0 0) (hn : n ≤ 21) (hl : Cond.methodLink own idx y ∈ lw_all) (hR : d + 1 ≤ R.frames ∧ 40 * (d + 1) ≤ R.locals) (hcs : cells + mc ≤ R.cells ∧ slots + ms ≤ R.slots) (hls : ls.size = nL) (hrm : (rest.map fun v => v.category).sum ≤ 8) (hd : decode cc pc = .ok (.invokevirtual idx, 3)) (hS : va_S (zLA N) H0 H locs)
    (kk : ∀ (H1 : Heap) (locs1 : List Loc), zLH D cy N σ ρ δ μ w v H1 → va_S (zLA N) H0 H1 locs1 → W p l e R s m args below meth c H1 locs1 (cells + mc) (slots + ms) Q (F0 m (pc + 3) ls (k :: rest))) : W p l e R s m args below meth c H locs cells slots Q (F0 m pc ls (.ref N :: rest)) := by
  obtain ⟨⟨hO, hWa, hWb, hWd⟩, hWm, hT, hTd⟩ := hL
  refine zcallCV (As := []) (rest := rest) X hml hK (zu_E hE hS) ⟨hO, hWa, hWd⟩ hM hm hn hl (zrecv hK hO rfl) hR hcs rfl hls rfl hrm hd hS (fun q h => h.elim) (fun _ _ _ _ _ h => absurd rfl h) (fun _ H1 locs1 hG hsz hk hS1 => kk H1 locs1 ?_ hS1)
  obtain ⟨hO', hWa', hWd'⟩ := hG
  exact ⟨⟨hO', hWa', hWb.kept (fun q h => hk q (hWb.lt h) id), hWd'⟩, hWm.kept (fun q h => hk q (hWm.lt h) id), hT.kept (fun h => hk _ h id), hTd.kept (fun h => hk _ h id)⟩
theorem zblindA (U : State) (g : JFrame) (mk : MethodId) (a : Array Value) (q : zBA D cy rf A G U) : zBA D cy rf A G (U.calling g mk a) := ⟨zK.moved (u := U) (U := U.calling g mk a) (Vm.Alike.refl U.vm) q.1, zE.same (u := U) (U := U.calling g mk a) rfl q.2.1, q.2.2⟩
theorem zpreVa (hK : zK D cy s) (hE : zE rf A s H) (hG : G H) (hr : ∃ cell : Cell, H[b]? = some cell ∧ cell.vm.isStatics = false ∧ s.vm.findClass C = some cell.cls) : PreV s H C b (va_Pc (.ref b :: As) (zBA D cy rf A G)) As := ⟨fun a U g mk q => ⟨q.1, zblindA U g mk a q.2⟩, hr, fun U hU hW => ⟨rfl, zK.moved hW.alike hK, by rw [hU]; exact zE.warm hW hE, by rw [hU]; exact hG⟩⟩
/-- the class is asked whether it is sound -/
theorem zlS {k : Value} (X : zX p m c s args own cc) (hml : c.maxLocals = nL) (hK : zK D cy s) (hE : zE rf (zLA N) s H0) (hL : zLH D cy N σ ρ δ μ w v H) (hM : Met l y (zw y code0 n ret0) (zrm d) (va_Pc [.ref N] (zBA D cy rf (zrg (zxb N) zsL) (zSS D cy N (zxa N) σ (zxb N) ρ (zxd N) δ))) (zqM (some k) (zSS D cy N (zxa N) σ (zxb N) ρ' (zxd N) δ) (zrg (zxb N) zsL)) 0 0 (zrg (zxb N) zsL)) (hm : zmV y RX9 code0 n ret0 0) (hn : n ≤ 21) (hl : Cond.methodLink own idx y ∈ lw_all) (hR : d + 1 ≤ R.frames ∧ 40 * (d + 1) ≤ R.locals) (hcs : cells ≤ R.cells ∧ slots ≤ R.slots) (hls : ls.size = nL) (hrm : (rest.map fun v => v.category).sum ≤ 8) (hd : decode cc pc = .ok (.invokevirtual idx, 3)) (hS : va_S (zLA N) H0 H locs)
    (kk : ∀ (H1 : Heap) (locs1 : List Loc), zLH D cy N σ ρ' δ μ w v H1 → va_S (zLA N) H0 H1 locs1 → W p l e R s m args below meth c H1 locs1 cells slots Q (F0 m (pc + 3) ls (k :: rest))) : W p l e R s m args below meth c H locs cells slots Q (F0 m pc ls (.ref N :: rest)) := by
  obtain ⟨hSS, hWm, hT, hTd⟩ := hL
  refine zcM (W.runV ⟨X.1, X.2.1, hml, X.2.2.1, X.2.2.2⟩ hM (zcwV X.2.2.2 hm hl hR hn) (zpreVa hK ((zu_E hE hS).narrow (fun q h => by have := zu_b h; show N ≤ q; omega)) hSS (zrecv hK hSS.1 rfl)) rfl rfl hls (show Value.ref N :: rest = ([] : List Value).reverse ++ .ref N :: rest from rfl) (lv_room hrm) hd hcs) hS (fun q h => by have := zu_b h; show N ≤ q; omega) (fun H1 locs1 hG hsz hk hS1 => kk H1 locs1 ?_ hS1)
  refine ⟨hG, hWm.kept (fun q h => hk q (hWm.lt h) (fun z => ?_)), hT.kept (fun h => hk _ h (fun z => ?_)), hTd.kept (fun h => hk _ h (fun z => ?_))⟩
  · have := zu_b z; have := zu_m h; omega
  · have := zu_b z; omega
  · have := zu_b z; omega
end ZLX
