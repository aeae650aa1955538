def zO (D : va_G) (sb lo ag di : Nat) (H : Heap) : Prop := va_at D zcl (sb, .inr (7, [.ref lo, .ref ag, .ref di])) H
theorem zO.kept {D : va_G} {sb lo ag di : Nat} {H H1 : Heap} (h : zO D sb lo ag di H) (hq : sb < H.size → H1[sb]? = H[sb]?) : zO D sb lo ag di H1 := va_at.kept h (hq (va_at.lt h))
def zSA (D : va_G) (cy : Nat → ClassId) (sb ag : Nat) (ad : Nat → Nat → Nat) (σ : zS) (adD : Nat → Nat → Nat) (δ : zS) (H : Heap) : Prop := zO D sb (ad 0 0) ag (adD 20 0) H ∧ zW D cy ad zsL σ H ∧ zW D cy adD zsD δ H
def zJ (sb : Nat) (ad adD : Nat → Nat → Nat) : Prop := zinj ad zsL ∧ zinj adD zsD ∧ (∀ q, zrg ad zsL q → ¬ zrg adD zsD q) ∧ ¬ zrg ad zsL sb ∧ ¬ zrg adD zsD sb
def zRA (ad adD : Nat → Nat → Nat) : Nat → Prop := fun q => zrg ad zsL q ∨ zrg adD zsD q
section ZG7
variable {p : Program} {l : Launch} {e : Env} {R : Room} {s : State} {m : MethodId} {args : Array Value} {below : List Frame} {meth : Method} {c : Code} {H : Heap} {locs : List Loc} {cells slots : Nat} {Q : State → Prop} {cc : ByteArray} {pc index : Nat} {ls : Array Slot} {rest : List Value} {D : va_G} {cy : Nat → ClassId} {own : String} {sb lo ag di : Nat}
theorem zg7_0 (X : zX p m c s args own cc) (hK : zK D cy s) (hO : zO D sb lo ag di H) (hl : Cond.fieldLink own index RX9 "loft" "LSilkloft$Loft;" ∈ lw_all) (hd : decode cc pc = .ok (.getfield index, 3)) (kk : W p l e R s m args below meth c H locs cells slots Q (F0 m (pc + 3) ls (.ref lo :: rest))) : W p l e R s m args below meth c H locs cells slots Q (F0 m pc ls (.ref sb :: rest)) := z_get X hK hO rfl zin7 0 (by decide) rfl rfl rfl hl rfl hd kk
theorem zg7_1 (X : zX p m c s args own cc) (hK : zK D cy s) (hO : zO D sb lo ag di H) (hl : Cond.fieldLink own index RX9 "again" "LSilkloft$Loft;" ∈ lw_all) (hd : decode cc pc = .ok (.getfield index, 3)) (kk : W p l e R s m args below meth c H locs cells slots Q (F0 m (pc + 3) ls (.ref ag :: rest))) : W p l e R s m args below meth c H locs cells slots Q (F0 m pc ls (.ref sb :: rest)) := z_get X hK hO rfl zin7 1 (by decide) rfl rfl rfl hl rfl hd kk
theorem zg7_2 (X : zX p m c s args own cc) (hK : zK D cy s) (hO : zO D sb lo ag di H) (hl : Cond.fieldLink own index RX9 "diary" "LSilkloft$Diary;" ∈ lw_all) (hd : decode cc pc = .ok (.getfield index, 3)) (kk : W p l e R s m args below meth c H locs cells slots Q (F0 m (pc + 3) ls (.ref di :: rest))) : W p l e R s m args below meth c H locs cells slots Q (F0 m pc ls (.ref sb :: rest)) := z_get X hK hO rfl zin7 2 (by decide) rfl rfl rfl hl rfl hd kk
end ZG7
theorem zmX9_throwFor : zmS yX9_throwFor RX9 cX9_throwFor 1 none 1 := ⟨m_659, m_1, m_660, rfl, by decide, by decide, by decide +kernel⟩
set_option maxRecDepth 100000 in
set_option maxHeartbeats 4000000 in
theorem ctX9_throwFor (l : Launch) (hl0 : l.stackTraces = false) (D : va_G) (cy : Nat → ClassId) (rf : Nat → Nat) (k9 : Nat) (hk9 : k9 < 5) : vx_Met l yX9_throwFor (zw yX9_throwFor cX9_throwFor 1 none) (zrx 6 1 6) (va_Pc [.ref (rf k9)] (zBE D cy rf (fun _ => True))) (zxQ k9 none (fun _ => True) (fun _ => False)) (zxC k9) 1 6 (fun _ => False) := by
  refine zmetX (by decide) rfl (Nat.le_of_ble_eq_true rfl) rfl (fun p e s m below meth c ls X hml hr hlocks hex hv hl => ?_)
  obtain ⟨hK, hE, -⟩ := hv
  obtain ⟨hx, hb, -, -⟩ := id X
  have hl : lv_has ls 1 [(0, .ref (rf k9))] := hl
  refine lv_aload_n hx hb dX9_throwFor_0 rfl (lv_at hl 0 rfl) ?_
  refine zgetE X hE va_S.rf 1 (by decide) rfl m_661 dX9_throwFor_1 ?_
  refine zcmpE_ne (tgt := 17) X hE.2.1 hk9 (by decide) dX9_throwFor_4 (by decide) (fun b1 => ?_) (fun b1 => ?_)
  · refine lv_aload_n hx hb dX9_throwFor_17 rfl (lv_at hl 0 rfl) ?_
    refine zgetE X hE va_S.rf 2 (by decide) rfl m_734 dX9_throwFor_18 ?_
    refine zcmpE_ne (tgt := 34) X hE.2.1 hk9 (by decide) dX9_throwFor_21 (by decide) (fun b2 => ?_) (fun b2 => ?_)
    · refine lv_aload_n hx hb dX9_throwFor_34 rfl (lv_at hl 0 rfl) ?_
      refine zgetE X hE va_S.rf 3 (by decide) rfl m_751 dX9_throwFor_35 ?_
      refine zcmpE_ne (tgt := 51) X hE.2.1 hk9 (by decide) dX9_throwFor_38 (by decide) (fun b3 => ?_) (fun b3 => ?_)
      · refine lv_aload_n hx hb dX9_throwFor_51 rfl (lv_at hl 0 rfl) ?_
        refine zgetE X hE va_S.rf 4 (by decide) rfl m_768 dX9_throwFor_52 ?_
        refine zcmpE_ne (tgt := 68) X hE.2.1 hk9 (by decide) dX9_throwFor_55 (by decide) (fun b4 => ?_) (fun b4 => ?_)
        · exact zx_v hx hb hr hlocks (show k9 = 0 from (by omega)) trivial va_S.rf (Nat.le_of_ble_eq_true rfl) (Nat.le_of_ble_eq_true rfl) dX9_throwFor_68
        · have hrr : k9 = 4 := b4
          exact zthS (cls := zxc 4) (text := "there is no room for more") X hl0 hE va_S.rf (fun _ _ => rfl) zfit_4 m_769 m_18 zat_4 (by simp [zstr]) hml hl.1 dX9_throwFor_58 dX9_throwFor_61 dX9_throwFor_62 dX9_throwFor_64 dX9_throwFor_67 hex hlocks ⟨Nat.le_of_ble_eq_true rfl, Nat.le_of_ble_eq_true rfl⟩ (Nat.le_of_ble_eq_true rfl) ⟨Nat.le_of_ble_eq_true rfl, Nat.le_of_ble_eq_true rfl⟩ (Nat.le_of_ble_eq_true rfl) (Nat.le_of_ble_eq_true rfl) (by rw [hrr]; decide) (by rw [hrr])
      · have hrr : k9 = 3 := b3
        exact zthS (cls := zxc 3) (text := "as things are, this can't be done") X hl0 hE va_S.rf (fun _ _ => rfl) zfit_3 m_752 m_17 zat_3 (by simp [zstr]) hml hl.1 dX9_throwFor_41 dX9_throwFor_44 dX9_throwFor_45 dX9_throwFor_47 dX9_throwFor_50 hex hlocks ⟨Nat.le_of_ble_eq_true rfl, Nat.le_of_ble_eq_true rfl⟩ (Nat.le_of_ble_eq_true rfl) ⟨Nat.le_of_ble_eq_true rfl, Nat.le_of_ble_eq_true rfl⟩ (Nat.le_of_ble_eq_true rfl) (Nat.le_of_ble_eq_true rfl) (by rw [hrr]; decide) (by rw [hrr])
    · have hrr : k9 = 2 := b2
      exact zthS (cls := zxc 2) (text := "an argument does not do") X hl0 hE va_S.rf (fun _ _ => rfl) zfit_2 m_735 m_16 zat_2 (by simp [zstr]) hml hl.1 dX9_throwFor_24 dX9_throwFor_27 dX9_throwFor_28 dX9_throwFor_30 dX9_throwFor_33 hex hlocks ⟨Nat.le_of_ble_eq_true rfl, Nat.le_of_ble_eq_true rfl⟩ (Nat.le_of_ble_eq_true rfl) ⟨Nat.le_of_ble_eq_true rfl, Nat.le_of_ble_eq_true rfl⟩ (Nat.le_of_ble_eq_true rfl) (Nat.le_of_ble_eq_true rfl) (by rw [hrr]; decide) (by rw [hrr])
  · have hrr : k9 = 1 := b1
    exact zthS (cls := zxc 1) (text := "there is no such one") X hl0 hE va_S.rf (fun _ _ => rfl) zfit_1 m_662 m_15 zat_1 (by simp [zstr]) hml hl.1 dX9_throwFor_7 dX9_throwFor_10 dX9_throwFor_11 dX9_throwFor_13 dX9_throwFor_16 hex hlocks ⟨Nat.le_of_ble_eq_true rfl, Nat.le_of_ble_eq_true rfl⟩ (Nat.le_of_ble_eq_true rfl) ⟨Nat.le_of_ble_eq_true rfl, Nat.le_of_ble_eq_true rfl⟩ (Nat.le_of_ble_eq_true rfl) (Nat.le_of_ble_eq_true rfl) (by rw [hrr]; decide) (by rw [hrr])
theorem zmX9_act : zmV yX9_act RX9 cX9_act 6 (some .int) 5 := ⟨m_655, s_32, m_1, m_656, rfl, by decide, by decide, by decide +kernel⟩
set_option maxRecDepth 100000 in
set_option maxHeartbeats 4000000 in
theorem ctX9_act (l : Launch) (hl0 : l.stackTraces = false) (D : va_G) (cy : Nat → ClassId) (rf : Nat → Nat) (sb ag : Nat) (ad : Nat → Nat → Nat) (σ : zS) (adD : Nat → Nat → Nat) (δ : zS) (hJ : zJ sb ad adD) (n : Nat) (hn : n < 20) (w1 : Int32) (w2 : Int32) (w3 : Int32) (w4 : Int32) (hV : zV σ) (hc : zbd δ 200 512) (hfull : k_full δ = false) : vx_Met l yX9_act (zw yX9_act cX9_act 6 (some .int)) (zrx 7 1 6) (va_Pc [.ref sb, .int (nI n), .int w1, .int w2, .int w3, .int w4] (zBE D cy rf (zSA D cy sb ag ad σ adD δ))) (zxQ (k_ref σ (nI n) w1 w2 w3 w4) (some (.int (k_pr σ (nI n) w1 w2 w3 w4))) (zSA D cy sb ag ad (k_pf σ (nI n) w1 w2 w3 w4) adD (f_X2_write δ (nI n) w1 w2 w3 w4)) (zRA ad adD)) (zxC (k_ref σ (nI n) w1 w2 w3 w4)) 1 6 (zRA ad adD) := by
  refine zmetX (by decide) rfl (Nat.le_of_ble_eq_true rfl) rfl (fun p e s m below meth c ls X hml hr hlocks hex hv hl => ?_)
  obtain ⟨hK, hE, hO, hW, hWD⟩ := hv
  obtain ⟨hx, hb, -, -⟩ := id X
  have hl : lv_has ls 6 [(0, .ref sb), (1, .int (nI n)), (2, .int w1), (3, .int w2), (4, .int w3), (5, .int w4)] := hl
  have hA : ∀ q, zrg ad zsL q → zRA ad adD q := fun q h => Or.inl h
  have hAD : ∀ q, zrg adD zsD q → zRA ad adD q := fun q h => Or.inr h
  refine lv_aload_n hx hb dX9_act_0 rfl (lv_at hl 0 rfl) ?_
  refine zg7_0 X hK hO m_311 dX9_act_1 ?_
  refine lv_iload_n hx hb dX9_act_4 rfl (lv_at hl 1 rfl) ?_
  refine lv_iload_n hx hb dX9_act_5 rfl (lv_at hl 2 rfl) ?_
  refine lv_iload_n hx hb dX9_act_6 rfl (lv_at hl 3 rfl) ?_
  refine lv_iload hx hb dX9_act_7 (lv_at hl 4 rfl) ?_
  refine lv_iload hx hb dX9_act_9 (lv_at hl 5 rfl) ?_
  refine zcallRSe (As := [.ref (ad 0 0), .int (nI n), .int w1, .int w2, .int w3, .int w4]) (rest := []) X hml hK hE hW (ctX8_refusalOf l D cy rf ad σ n hn w1 w2 w3 w4 hV) zmX8_refusalOf (by decide) m_657 ⟨Nat.le_of_ble_eq_true rfl, Nat.le_of_ble_eq_true rfl⟩ ⟨Nat.le_of_ble_eq_true rfl, Nat.le_of_ble_eq_true rfl⟩ rfl hl.1 rfl (Nat.le_of_ble_eq_true rfl) dX9_act_11 ?_
  refine zcallXS (As := [.ref (rf (k_ref σ (nI n) w1 w2 w3 w4))]) (rest := []) X hml hK hE trivial (ctX9_throwFor l hl0 D cy rf (k_ref σ (nI n) w1 w2 w3 w4) (k_ref_lt σ hn w1 w2 w3 w4)) zmX9_throwFor (by decide) m_658 ⟨(Nat.le_of_ble_eq_true rfl), (Nat.le_of_ble_eq_true rfl)⟩ ⟨(Nat.le_of_ble_eq_true rfl), (Nat.le_of_ble_eq_true rfl)⟩ rfl hl.1 rfl (Nat.le_of_ble_eq_true rfl) dX9_act_14 va_S.rf (fun _ h => h.elim) (fun _ => rfl) hex hlocks (fun _ _ => rfl) (Nat.le_of_ble_eq_true rfl) (Nat.le_of_ble_eq_true rfl) (fun h0 H locs hG9 hsz hfr hS => ?_)
  have hO := zO.kept hO (fun hq => hfr _ hq (fun z => z))
  have hW := zW.kept hW (fun q hq => hfr q (hW.lt hq) (fun z => z))
  have hWD := zW.kept hWD (fun q hq => hfr q (hWD.lt hq) (fun z => z))
  refine lv_aload_n hx hb dX9_act_17 rfl (lv_at hl 0 rfl) ?_
  refine zg7_2 X hK hO m_313 dX9_act_18 ?_
  refine zcallRV (As := []) (rest := []) X hml hK hWD (ctX2_isFull l D cy adD δ) zmX2_isFull (by decide) m_785 (zrecv hK (hWD 20 0 rfl (by decide)) rfl) ⟨Nat.le_of_ble_eq_true rfl, Nat.le_of_ble_eq_true rfl⟩ ⟨Nat.le_of_ble_eq_true rfl, Nat.le_of_ble_eq_true rfl⟩ rfl hl.1 rfl (Nat.le_of_ble_eq_true rfl) dX9_act_21 ?_
  rw [hfull]
  refine zb_eq (tgt := 29) hx hb dX9_act_24 (by decide) (fun _ => ?_) (fun h => absurd h (by decide))
  refine lv_aload_n hx hb dX9_act_29 rfl (lv_at hl 0 rfl) ?_
  refine zg7_2 X hK hO m_313 dX9_act_30 ?_
  refine lv_iload_n hx hb dX9_act_33 rfl (lv_at hl 1 rfl) ?_
  refine lv_iload_n hx hb dX9_act_34 rfl (lv_at hl 2 rfl) ?_
  refine lv_iload_n hx hb dX9_act_35 rfl (lv_at hl 3 rfl) ?_
  refine lv_iload hx hb dX9_act_36 (lv_at hl 4 rfl) ?_
  refine lv_iload hx hb dX9_act_38 (lv_at hl 5 rfl) ?_
  refine zcallMV (As := [.int (nI n), .int w1, .int w2, .int w3, .int w4]) (rest := []) X hml hK hWD (ctX2_write l D cy adD δ hJ.2.1 (nI n) w1 w2 w3 w4 hc) zmX2_write (by decide) m_789 (zrecv hK (hWD 20 0 rfl (by decide)) rfl) ⟨(Nat.le_of_ble_eq_true rfl), (Nat.le_of_ble_eq_true rfl)⟩ ⟨(Nat.le_of_ble_eq_true rfl), (Nat.le_of_ble_eq_true rfl)⟩ rfl hl.1 rfl (Nat.le_of_ble_eq_true rfl) dX9_act_40 hS hAD (fun H locs hW9 hsz hfr hS => ?_)
  replace hWD := hW9
  replace hW := zW.kept hW (fun q hq => hfr q (hW.lt hq) (hJ.2.2.1 q hq))
  replace hO := zO.kept hO (fun hq => hfr _ hq hJ.2.2.2.2)
  refine lv_aload_n hx hb dX9_act_43 rfl (lv_at hl 0 rfl) ?_
  refine zg7_0 X hK hO m_311 dX9_act_44 ?_
  refine lv_iload_n hx hb dX9_act_47 rfl (lv_at hl 1 rfl) ?_
  refine lv_iload_n hx hb dX9_act_48 rfl (lv_at hl 2 rfl) ?_
  refine lv_iload_n hx hb dX9_act_49 rfl (lv_at hl 3 rfl) ?_
  refine lv_iload hx hb dX9_act_50 (lv_at hl 4 rfl) ?_
  refine lv_iload hx hb dX9_act_52 (lv_at hl 5 rfl) ?_
  refine zcallMV (As := [.int (nI n), .int w1, .int w2, .int w3, .int w4]) (rest := []) X hml hK hW (ctX5_perform l D cy ad σ hJ.1 n hn w1 w2 w3 w4 hV h0) zmX5_perform (by decide) m_794 (zrecv hK (hW 0 0 rfl (by decide)) rfl) ⟨(Nat.le_of_ble_eq_true rfl), (Nat.le_of_ble_eq_true rfl)⟩ ⟨(Nat.le_of_ble_eq_true rfl), (Nat.le_of_ble_eq_true rfl)⟩ rfl hl.1 rfl (Nat.le_of_ble_eq_true rfl) dX9_act_54 hS hA (fun H locs hW9 hsz hfr hS => ?_)
  replace hW := hW9
  replace hWD := zW.kept hWD (fun q hq => hfr q (hWD.lt hq) (fun z => hJ.2.2.1 q z hq))
  replace hO := zO.kept hO (fun hq => hfr _ hq hJ.2.2.2.1)
  exact zx_i hx hb hr hlocks (show k_ref σ (nI n) w1 w2 w3 w4 = 0 from h0) rfl ⟨hO, hW, hWD⟩ hS (Nat.le_of_ble_eq_true rfl) (Nat.le_of_ble_eq_true rfl) dX9_act_57
theorem zmX9_addRigger : zmV yX9_addRigger RX9 cX9_addRigger 3 (some .int) 2 := ⟨m_650, m_651, m_1, m_652, rfl, by decide, by decide, by decide +kernel⟩
set_option maxRecDepth 100000 in
set_option maxHeartbeats 4000000 in
theorem ctX9_addRigger (l : Launch) (hl0 : l.stackTraces = false) (D : va_G) (cy : Nat → ClassId) (rf : Nat → Nat) (sb ag : Nat) (ad : Nat → Nat → Nat) (σ : zS) (adD : Nat → Nat → Nat) (δ : zS) (hJ : zJ sb ad adD) (w1 : Int32) (w2 : Int32) (hV : zV σ) (hc : zbd δ 200 512) (hfull : k_full δ = false) : vx_Met l yX9_addRigger (zw yX9_addRigger cX9_addRigger 3 (some .int)) (zrx 8 1 6) (va_Pc [.ref sb, .int w1, .int w2] (zBE D cy rf (zSA D cy sb ag ad σ adD δ))) (zxQ (k_ref σ (nI 0) w1 w2 0 0) (some (.int (k_pr σ (nI 0) w1 w2 0 0))) (zSA D cy sb ag ad (k_pf σ (nI 0) w1 w2 0 0) adD (f_X2_write δ (nI 0) w1 w2 0 0)) (zRA ad adD)) (zxC (k_ref σ (nI 0) w1 w2 0 0)) 1 6 (zRA ad adD) := by
  refine zmetX (by decide) rfl (Nat.le_of_ble_eq_true rfl) rfl (fun p e s m below meth c ls X hml hr hlocks hex hv hl => ?_)
  obtain ⟨hK, hE, hO, hW, hWD⟩ := hv
  obtain ⟨hx, hb, -, -⟩ := id X
  have hl : lv_has ls 3 [(0, .ref sb), (1, .int w1), (2, .int w2)] := hl
  have hA : ∀ q, zrg ad zsL q → zRA ad adD q := fun q h => Or.inl h
  have hAD : ∀ q, zrg adD zsD q → zRA ad adD q := fun q h => Or.inr h
  refine lv_aload_n hx hb dX9_addRigger_0 rfl (lv_at hl 0 rfl) ?_
  refine lv_iconst (v := 0) hx hb dX9_addRigger_1 (by decide) ?_
  refine lv_iload_n hx hb dX9_addRigger_2 rfl (lv_at hl 1 rfl) ?_
  refine lv_iload_n hx hb dX9_addRigger_3 rfl (lv_at hl 2 rfl) ?_
  refine lv_iconst (v := 0) hx hb dX9_addRigger_4 (by decide) ?_
  refine lv_iconst (v := 0) hx hb dX9_addRigger_5 (by decide) ?_
  refine zcallXV (As := [.int 0, .int w1, .int w2, .int 0, .int 0]) (rest := []) X hml hK hE ⟨hO, hW, hWD⟩ (ctX9_act l hl0 D cy rf sb ag ad σ adD δ hJ 0 (by decide) w1 w2 0 0 hV hc hfull) zmX9_act (by decide) m_653 (zrecv hK hO rfl) ⟨(Nat.le_of_ble_eq_true rfl), (Nat.le_of_ble_eq_true rfl)⟩ ⟨(Nat.le_of_ble_eq_true rfl), (Nat.le_of_ble_eq_true rfl)⟩ rfl hl.1 rfl (Nat.le_of_ble_eq_true rfl) dX9_addRigger_6 va_S.rf (fun _ h => h) (fun _ => rfl) hex hlocks (fun _ _ => rfl) (Nat.le_of_ble_eq_true rfl) (Nat.le_of_ble_eq_true rfl) (fun h0 H locs hG9 hsz hfr hS => ?_)
  obtain ⟨hO, hW, hWD⟩ := hG9
  exact zx_i hx hb hr hlocks (show k_ref σ (nI 0) w1 w2 0 0 = 0 from h0) rfl ⟨hO, hW, hWD⟩ hS (Nat.le_of_ble_eq_true rfl) (Nat.le_of_ble_eq_true rfl) dX9_addRigger_9
theorem zmX9_addCanopy : zmV yX9_addCanopy RX9 cX9_addCanopy 5 (some .int) 4 := ⟨m_799, m_800, m_1, m_801, rfl, by decide, by decide, by decide +kernel⟩
set_option maxRecDepth 100000 in
set_option maxHeartbeats 4000000 in
theorem ctX9_addCanopy (l : Launch) (hl0 : l.stackTraces = false) (D : va_G) (cy : Nat → ClassId) (rf : Nat → Nat) (sb ag : Nat) (ad : Nat → Nat → Nat) (σ : zS) (adD : Nat → Nat → Nat) (δ : zS) (hJ : zJ sb ad adD) (w1 : Int32) (w2 : Int32) (w3 : Int32) (w4 : Int32) (hV : zV σ) (hc : zbd δ 200 512) (hfull : k_full δ = false) : vx_Met l yX9_addCanopy (zw yX9_addCanopy cX9_addCanopy 5 (some .int)) (zrx 8 1 6) (va_Pc [.ref sb, .int w1, .int w2, .int w3, .int w4] (zBE D cy rf (zSA D cy sb ag ad σ adD δ))) (zxQ (k_ref σ (nI 2) w1 w2 w3 w4) (some (.int (k_pr σ (nI 2) w1 w2 w3 w4))) (zSA D cy sb ag ad (k_pf σ (nI 2) w1 w2 w3 w4) adD (f_X2_write δ (nI 2) w1 w2 w3 w4)) (zRA ad adD)) (zxC (k_ref σ (nI 2) w1 w2 w3 w4)) 1 6 (zRA ad adD) := by
  refine zmetX (by decide) rfl (Nat.le_of_ble_eq_true rfl) rfl (fun p e s m below meth c ls X hml hr hlocks hex hv hl => ?_)
  obtain ⟨hK, hE, hO, hW, hWD⟩ := hv
  obtain ⟨hx, hb, -, -⟩ := id X
  have hl : lv_has ls 5 [(0, .ref sb), (1, .int w1), (2, .int w2), (3, .int w3), (4, .int w4)] := hl
  have hA : ∀ q, zrg ad zsL q → zRA ad adD q := fun q h => Or.inl h
  have hAD : ∀ q, zrg adD zsD q → zRA ad adD q := fun q h => Or.inr h
  refine lv_aload_n hx hb dX9_addCanopy_0 rfl (lv_at hl 0 rfl) ?_
  refine lv_iconst (v := 2) hx hb dX9_addCanopy_1 (by decide) ?_
  refine lv_iload_n hx hb dX9_addCanopy_2 rfl (lv_at hl 1 rfl) ?_
  refine lv_iload_n hx hb dX9_addCanopy_3 rfl (lv_at hl 2 rfl) ?_
  refine lv_iload_n hx hb dX9_addCanopy_4 rfl (lv_at hl 3 rfl) ?_
  refine lv_iload hx hb dX9_addCanopy_5 (lv_at hl 4 rfl) ?_
  refine zcallXV (As := [.int 2, .int w1, .int w2, .int w3, .int w4]) (rest := []) X hml hK hE ⟨hO, hW, hWD⟩ (ctX9_act l hl0 D cy rf sb ag ad σ adD δ hJ 2 (by decide) w1 w2 w3 w4 hV hc hfull) zmX9_act (by decide) m_653 (zrecv hK hO rfl) ⟨(Nat.le_of_ble_eq_true rfl), (Nat.le_of_ble_eq_true rfl)⟩ ⟨(Nat.le_of_ble_eq_true rfl), (Nat.le_of_ble_eq_true rfl)⟩ rfl hl.1 rfl (Nat.le_of_ble_eq_true rfl) dX9_addCanopy_7 va_S.rf (fun _ h => h) (fun _ => rfl) hex hlocks (fun _ _ => rfl) (Nat.le_of_ble_eq_true rfl) (Nat.le_of_ble_eq_true rfl) (fun h0 H locs hG9 hsz hfr hS => ?_)
  obtain ⟨hO, hW, hWD⟩ := hG9
  exact zx_i hx hb hr hlocks (show k_ref σ (nI 2) w1 w2 w3 w4 = 0 from h0) rfl ⟨hO, hW, hWD⟩ hS (Nat.le_of_ble_eq_true rfl) (Nat.le_of_ble_eq_true rfl) dX9_addCanopy_10
theorem zmX9_setPeriod : zmV yX9_setPeriod RX9 cX9_setPeriod 2 (some .int) 1 := ⟨m_1221, m_1222, m_1, m_1223, rfl, by decide, by decide, by decide +kernel⟩
set_option maxRecDepth 100000 in
set_option maxHeartbeats 4000000 in
theorem ctX9_setPeriod (l : Launch) (hl0 : l.stackTraces = false) (D : va_G) (cy : Nat → ClassId) (rf : Nat → Nat) (sb ag : Nat) (ad : Nat → Nat → Nat) (σ : zS) (adD : Nat → Nat → Nat) (δ : zS) (hJ : zJ sb ad adD) (w1 : Int32) (hV : zV σ) (hc : zbd δ 200 512) (hfull : k_full δ = false) : vx_Met l yX9_setPeriod (zw yX9_setPeriod cX9_setPeriod 2 (some .int)) (zrx 8 1 6) (va_Pc [.ref sb, .int w1] (zBE D cy rf (zSA D cy sb ag ad σ adD δ))) (zxQ (k_ref σ (nI 3) w1 0 0 0) (some (.int (k_pr σ (nI 3) w1 0 0 0))) (zSA D cy sb ag ad (k_pf σ (nI 3) w1 0 0 0) adD (f_X2_write δ (nI 3) w1 0 0 0)) (zRA ad adD)) (zxC (k_ref σ (nI 3) w1 0 0 0)) 1 6 (zRA ad adD) := by
  refine zmetX (by decide) rfl (Nat.le_of_ble_eq_true rfl) rfl (fun p e s m below meth c ls X hml hr hlocks hex hv hl => ?_)
  obtain ⟨hK, hE, hO, hW, hWD⟩ := hv
  obtain ⟨hx, hb, -, -⟩ := id X
  have hl : lv_has ls 2 [(0, .ref sb), (1, .int w1)] := hl
  have hA : ∀ q, zrg ad zsL q → zRA ad adD q := fun q h => Or.inl h
  have hAD : ∀ q, zrg adD zsD q → zRA ad adD q := fun q h => Or.inr h
  refine lv_aload_n hx hb dX9_setPeriod_0 rfl (lv_at hl 0 rfl) ?_
  refine lv_iconst (v := 3) hx hb dX9_setPeriod_1 (by decide) ?_
  refine lv_iload_n hx hb dX9_setPeriod_2 rfl (lv_at hl 1 rfl) ?_
  refine lv_iconst (v := 0) hx hb dX9_setPeriod_3 (by decide) ?_
  refine lv_iconst (v := 0) hx hb dX9_setPeriod_4 (by decide) ?_
  refine lv_iconst (v := 0) hx hb dX9_setPeriod_5 (by decide) ?_
  refine zcallXV (As := [.int 3, .int w1, .int 0, .int 0, .int 0]) (rest := []) X hml hK hE ⟨hO, hW, hWD⟩ (ctX9_act l hl0 D cy rf sb ag ad σ adD δ hJ 3 (by decide) w1 0 0 0 hV hc hfull) zmX9_act (by decide) m_653 (zrecv hK hO rfl) ⟨(Nat.le_of_ble_eq_true rfl), (Nat.le_of_ble_eq_true rfl)⟩ ⟨(Nat.le_of_ble_eq_true rfl), (Nat.le_of_ble_eq_true rfl)⟩ rfl hl.1 rfl (Nat.le_of_ble_eq_true rfl) dX9_setPeriod_6 va_S.rf (fun _ h => h) (fun _ => rfl) hex hlocks (fun _ _ => rfl) (Nat.le_of_ble_eq_true rfl) (Nat.le_of_ble_eq_true rfl) (fun h0 H locs hG9 hsz hfr hS => ?_)
  obtain ⟨hO, hW, hWD⟩ := hG9
  exact zx_i hx hb hr hlocks (show k_ref σ (nI 3) w1 0 0 0 = 0 from h0) rfl ⟨hO, hW, hWD⟩ hS (Nat.le_of_ble_eq_true rfl) (Nat.le_of_ble_eq_true rfl) dX9_setPeriod_9
theorem zmX9_goOn : zmV yX9_goOn RX9 cX9_goOn 2 (some .int) 1 := ⟨m_1027, m_1028, m_1, m_1029, rfl, by decide, by decide, by decide +kernel⟩
set_option maxRecDepth 100000 in
set_option maxHeartbeats 4000000 in
theorem ctX9_goOn (l : Launch) (hl0 : l.stackTraces = false) (D : va_G) (cy : Nat → ClassId) (rf : Nat → Nat) (sb ag : Nat) (ad : Nat → Nat → Nat) (σ : zS) (adD : Nat → Nat → Nat) (δ : zS) (hJ : zJ sb ad adD) (w1 : Int32) (hV : zV σ) (hc : zbd δ 200 512) (hfull : k_full δ = false) : vx_Met l yX9_goOn (zw yX9_goOn cX9_goOn 2 (some .int)) (zrx 8 1 6) (va_Pc [.ref sb, .int w1] (zBE D cy rf (zSA D cy sb ag ad σ adD δ))) (zxQ (k_ref σ (nI 4) w1 0 0 0) (some (.int (k_pr σ (nI 4) w1 0 0 0))) (zSA D cy sb ag ad (k_pf σ (nI 4) w1 0 0 0) adD (f_X2_write δ (nI 4) w1 0 0 0)) (zRA ad adD)) (zxC (k_ref σ (nI 4) w1 0 0 0)) 1 6 (zRA ad adD) := by
  refine zmetX (by decide) rfl (Nat.le_of_ble_eq_true rfl) rfl (fun p e s m below meth c ls X hml hr hlocks hex hv hl => ?_)
  obtain ⟨hK, hE, hO, hW, hWD⟩ := hv
  obtain ⟨hx, hb, -, -⟩ := id X
  have hl : lv_has ls 2 [(0, .ref sb), (1, .int w1)] := hl
  have hA : ∀ q, zrg ad zsL q → zRA ad adD q := fun q h => Or.inl h
  have hAD : ∀ q, zrg adD zsD q → zRA ad adD q := fun q h => Or.inr h
  refine lv_aload_n hx hb dX9_goOn_0 rfl (lv_at hl 0 rfl) ?_
  refine lv_iconst (v := 4) hx hb dX9_goOn_1 (by decide) ?_
  refine lv_iload_n hx hb dX9_goOn_2 rfl (lv_at hl 1 rfl) ?_
  refine lv_iconst (v := 0) hx hb dX9_goOn_3 (by decide) ?_
  refine lv_iconst (v := 0) hx hb dX9_goOn_4 (by decide) ?_
  refine lv_iconst (v := 0) hx hb dX9_goOn_5 (by decide) ?_
  refine zcallXV (As := [.int 4, .int w1, .int 0, .int 0, .int 0]) (rest := []) X hml hK hE ⟨hO, hW, hWD⟩ (ctX9_act l hl0 D cy rf sb ag ad σ adD δ hJ 4 (by decide) w1 0 0 0 hV hc hfull) zmX9_act (by decide) m_653 (zrecv hK hO rfl) ⟨(Nat.le_of_ble_eq_true rfl), (Nat.le_of_ble_eq_true rfl)⟩ ⟨(Nat.le_of_ble_eq_true rfl), (Nat.le_of_ble_eq_true rfl)⟩ rfl hl.1 rfl (Nat.le_of_ble_eq_true rfl) dX9_goOn_6 va_S.rf (fun _ h => h) (fun _ => rfl) hex hlocks (fun _ _ => rfl) (Nat.le_of_ble_eq_true rfl) (Nat.le_of_ble_eq_true rfl) (fun h0 H locs hG9 hsz hfr hS => ?_)
  obtain ⟨hO, hW, hWD⟩ := hG9
  exact zx_i hx hb hr hlocks (show k_ref σ (nI 4) w1 0 0 0 = 0 from h0) rfl ⟨hO, hW, hWD⟩ hS (Nat.le_of_ble_eq_true rfl) (Nat.le_of_ble_eq_true rfl) dX9_goOn_9
theorem zmX9_hang : zmV yX9_hang RX9 cX9_hang 3 (some .int) 2 := ⟨m_858, m_859, m_1, m_860, rfl, by decide, by decide, by decide +kernel⟩
set_option maxRecDepth 100000 in
set_option maxHeartbeats 4000000 in
theorem ctX9_hang (l : Launch) (hl0 : l.stackTraces = false) (D : va_G) (cy : Nat → ClassId) (rf : Nat → Nat) (sb ag : Nat) (ad : Nat → Nat → Nat) (σ : zS) (adD : Nat → Nat → Nat) (δ : zS) (hJ : zJ sb ad adD) (w1 : Int32) (w2 : Int32) (hV : zV σ) (hc : zbd δ 200 512) (hfull : k_full δ = false) : vx_Met l yX9_hang (zw yX9_hang cX9_hang 3 (some .int)) (zrx 8 1 6) (va_Pc [.ref sb, .int w1, .int w2] (zBE D cy rf (zSA D cy sb ag ad σ adD δ))) (zxQ (k_ref σ (nI 5) w1 w2 0 0) (some (.int (k_pr σ (nI 5) w1 w2 0 0))) (zSA D cy sb ag ad (k_pf σ (nI 5) w1 w2 0 0) adD (f_X2_write δ (nI 5) w1 w2 0 0)) (zRA ad adD)) (zxC (k_ref σ (nI 5) w1 w2 0 0)) 1 6 (zRA ad adD) := by
  refine zmetX (by decide) rfl (Nat.le_of_ble_eq_true rfl) rfl (fun p e s m below meth c ls X hml hr hlocks hex hv hl => ?_)
  obtain ⟨hK, hE, hO, hW, hWD⟩ := hv
  obtain ⟨hx, hb, -, -⟩ := id X
  have hl : lv_has ls 3 [(0, .ref sb), (1, .int w1), (2, .int w2)] := hl
  have hA : ∀ q, zrg ad zsL q → zRA ad adD q := fun q h => Or.inl h
  have hAD : ∀ q, zrg adD zsD q → zRA ad adD q := fun q h => Or.inr h
  refine lv_aload_n hx hb dX9_hang_0 rfl (lv_at hl 0 rfl) ?_
  refine lv_iconst (v := 5) hx hb dX9_hang_1 (by decide) ?_
  refine lv_iload_n hx hb dX9_hang_2 rfl (lv_at hl 1 rfl) ?_
  refine lv_iload_n hx hb dX9_hang_3 rfl (lv_at hl 2 rfl) ?_
  refine lv_iconst (v := 0) hx hb dX9_hang_4 (by decide) ?_
  refine lv_iconst (v := 0) hx hb dX9_hang_5 (by decide) ?_
  refine zcallXV (As := [.int 5, .int w1, .int w2, .int 0, .int 0]) (rest := []) X hml hK hE ⟨hO, hW, hWD⟩ (ctX9_act l hl0 D cy rf sb ag ad σ adD δ hJ 5 (by decide) w1 w2 0 0 hV hc hfull) zmX9_act (by decide) m_653 (zrecv hK hO rfl) ⟨(Nat.le_of_ble_eq_true rfl), (Nat.le_of_ble_eq_true rfl)⟩ ⟨(Nat.le_of_ble_eq_true rfl), (Nat.le_of_ble_eq_true rfl)⟩ rfl hl.1 rfl (Nat.le_of_ble_eq_true rfl) dX9_hang_6 va_S.rf (fun _ h => h) (fun _ => rfl) hex hlocks (fun _ _ => rfl) (Nat.le_of_ble_eq_true rfl) (Nat.le_of_ble_eq_true rfl) (fun h0 H locs hG9 hsz hfr hS => ?_)
  obtain ⟨hO, hW, hWD⟩ := hG9
  exact zx_i hx hb hr hlocks (show k_ref σ (nI 5) w1 w2 0 0 = 0 from h0) rfl ⟨hO, hW, hWD⟩ hS (Nat.le_of_ble_eq_true rfl) (Nat.le_of_ble_eq_true rfl) dX9_hang_9
theorem zmX9_step : zmV yX9_step RX9 cX9_step 3 (some .int) 2 := ⟨m_865, m_866, m_1, m_867, rfl, by decide, by decide, by decide +kernel⟩
set_option maxRecDepth 100000 in
set_option maxHeartbeats 4000000 in
theorem ctX9_step (l : Launch) (hl0 : l.stackTraces = false) (D : va_G) (cy : Nat → ClassId) (rf : Nat → Nat) (sb ag : Nat) (ad : Nat → Nat → Nat) (σ : zS) (adD : Nat → Nat → Nat) (δ : zS) (hJ : zJ sb ad adD) (w1 : Int32) (w2 : Int32) (hV : zV σ) (hc : zbd δ 200 512) (hfull : k_full δ = false) : vx_Met l yX9_step (zw yX9_step cX9_step 3 (some .int)) (zrx 8 1 6) (va_Pc [.ref sb, .int w1, .int w2] (zBE D cy rf (zSA D cy sb ag ad σ adD δ))) (zxQ (k_ref σ (nI 6) w1 w2 0 0) (some (.int (k_pr σ (nI 6) w1 w2 0 0))) (zSA D cy sb ag ad (k_pf σ (nI 6) w1 w2 0 0) adD (f_X2_write δ (nI 6) w1 w2 0 0)) (zRA ad adD)) (zxC (k_ref σ (nI 6) w1 w2 0 0)) 1 6 (zRA ad adD) := by
  refine zmetX (by decide) rfl (Nat.le_of_ble_eq_true rfl) rfl (fun p e s m below meth c ls X hml hr hlocks hex hv hl => ?_)
  obtain ⟨hK, hE, hO, hW, hWD⟩ := hv
  obtain ⟨hx, hb, -, -⟩ := id X
  have hl : lv_has ls 3 [(0, .ref sb), (1, .int w1), (2, .int w2)] := hl
  have hA : ∀ q, zrg ad zsL q → zRA ad adD q := fun q h => Or.inl h
  have hAD : ∀ q, zrg adD zsD q → zRA ad adD q := fun q h => Or.inr h
  refine lv_aload_n hx hb dX9_step_0 rfl (lv_at hl 0 rfl) ?_
  refine lv_bipush (v := 6) hx hb dX9_step_1 (by decide) ?_
  refine lv_iload_n hx hb dX9_step_3 rfl (lv_at hl 1 rfl) ?_
  refine lv_iload_n hx hb dX9_step_4 rfl (lv_at hl 2 rfl) ?_
  refine lv_iconst (v := 0) hx hb dX9_step_5 (by decide) ?_
  refine lv_iconst (v := 0) hx hb dX9_step_6 (by decide) ?_
  refine zcallXV (As := [.int 6, .int w1, .int w2, .int 0, .int 0]) (rest := []) X hml hK hE ⟨hO, hW, hWD⟩ (ctX9_act l hl0 D cy rf sb ag ad σ adD δ hJ 6 (by decide) w1 w2 0 0 hV hc hfull) zmX9_act (by decide) m_653 (zrecv hK hO rfl) ⟨(Nat.le_of_ble_eq_true rfl), (Nat.le_of_ble_eq_true rfl)⟩ ⟨(Nat.le_of_ble_eq_true rfl), (Nat.le_of_ble_eq_true rfl)⟩ rfl hl.1 rfl (Nat.le_of_ble_eq_true rfl) dX9_step_7 va_S.rf (fun _ h => h) (fun _ => rfl) hex hlocks (fun _ _ => rfl) (Nat.le_of_ble_eq_true rfl) (Nat.le_of_ble_eq_true rfl) (fun h0 H locs hG9 hsz hfr hS => ?_)
  obtain ⟨hO, hW, hWD⟩ := hG9
  exact zx_i hx hb hr hlocks (show k_ref σ (nI 6) w1 w2 0 0 = 0 from h0) rfl ⟨hO, hW, hWD⟩ hS (Nat.le_of_ble_eq_true rfl) (Nat.le_of_ble_eq_true rfl) dX9_step_10
theorem zmX9_breakOff : zmV yX9_breakOff RX9 cX9_breakOff 2 (some .int) 1 := ⟨m_872, m_873, m_1, m_874, rfl, by decide, by decide, by decide +kernel⟩
set_option maxRecDepth 100000 in
set_option maxHeartbeats 4000000 in
theorem ctX9_breakOff (l : Launch) (hl0 : l.stackTraces = false) (D : va_G) (cy : Nat → ClassId) (rf : Nat → Nat) (sb ag : Nat) (ad : Nat → Nat → Nat) (σ : zS) (adD : Nat → Nat → Nat) (δ : zS) (hJ : zJ sb ad adD) (w1 : Int32) (hV : zV σ) (hc : zbd δ 200 512) (hfull : k_full δ = false) : vx_Met l yX9_breakOff (zw yX9_breakOff cX9_breakOff 2 (some .int)) (zrx 8 1 6) (va_Pc [.ref sb, .int w1] (zBE D cy rf (zSA D cy sb ag ad σ adD δ))) (zxQ (k_ref σ (nI 7) w1 0 0 0) (some (.int (k_pr σ (nI 7) w1 0 0 0))) (zSA D cy sb ag ad (k_pf σ (nI 7) w1 0 0 0) adD (f_X2_write δ (nI 7) w1 0 0 0)) (zRA ad adD)) (zxC (k_ref σ (nI 7) w1 0 0 0)) 1 6 (zRA ad adD) := by
  refine zmetX (by decide) rfl (Nat.le_of_ble_eq_true rfl) rfl (fun p e s m below meth c ls X hml hr hlocks hex hv hl => ?_)
  obtain ⟨hK, hE, hO, hW, hWD⟩ := hv
  obtain ⟨hx, hb, -, -⟩ := id X
  have hl : lv_has ls 2 [(0, .ref sb), (1, .int w1)] := hl
  have hA : ∀ q, zrg ad zsL q → zRA ad adD q := fun q h => Or.inl h
  have hAD : ∀ q, zrg adD zsD q → zRA ad adD q := fun q h => Or.inr h
  refine lv_aload_n hx hb dX9_breakOff_0 rfl (lv_at hl 0 rfl) ?_
  refine lv_bipush (v := 7) hx hb dX9_breakOff_1 (by decide) ?_
  refine lv_iload_n hx hb dX9_breakOff_3 rfl (lv_at hl 1 rfl) ?_
  refine lv_iconst (v := 0) hx hb dX9_breakOff_4 (by decide) ?_
  refine lv_iconst (v := 0) hx hb dX9_breakOff_5 (by decide) ?_
  refine lv_iconst (v := 0) hx hb dX9_breakOff_6 (by decide) ?_
  refine zcallXV (As := [.int 7, .int w1, .int 0, .int 0, .int 0]) (rest := []) X hml hK hE ⟨hO, hW, hWD⟩ (ctX9_act l hl0 D cy rf sb ag ad σ adD δ hJ 7 (by decide) w1 0 0 0 hV hc hfull) zmX9_act (by decide) m_653 (zrecv hK hO rfl) ⟨(Nat.le_of_ble_eq_true rfl), (Nat.le_of_ble_eq_true rfl)⟩ ⟨(Nat.le_of_ble_eq_true rfl), (Nat.le_of_ble_eq_true rfl)⟩ rfl hl.1 rfl (Nat.le_of_ble_eq_true rfl) dX9_breakOff_7 va_S.rf (fun _ h => h) (fun _ => rfl) hex hlocks (fun _ _ => rfl) (Nat.le_of_ble_eq_true rfl) (Nat.le_of_ble_eq_true rfl) (fun h0 H locs hG9 hsz hfr hS => ?_)
  obtain ⟨hO, hW, hWD⟩ := hG9
  exact zx_i hx hb hr hlocks (show k_ref σ (nI 7) w1 0 0 0 = 0 from h0) rfl ⟨hO, hW, hWD⟩ hS (Nat.le_of_ble_eq_true rfl) (Nat.le_of_ble_eq_true rfl) dX9_breakOff_10
theorem zmX9_load : zmV yX9_load RX9 cX9_load 1 (some .int) 0 := ⟨m_806, m_807, m_1, m_808, rfl, by decide, by decide, by decide +kernel⟩
set_option maxRecDepth 100000 in
set_option maxHeartbeats 4000000 in
theorem ctX9_load (l : Launch) (hl0 : l.stackTraces = false) (D : va_G) (cy : Nat → ClassId) (rf : Nat → Nat) (sb ag : Nat) (ad : Nat → Nat → Nat) (σ : zS) (adD : Nat → Nat → Nat) (δ : zS) (hJ : zJ sb ad adD) (hV : zV σ) (hc : zbd δ 200 512) (hfull : k_full δ = false) : vx_Met l yX9_load (zw yX9_load cX9_load 1 (some .int)) (zrx 8 1 6) (va_Pc [.ref sb] (zBE D cy rf (zSA D cy sb ag ad σ adD δ))) (zxQ (k_ref σ (nI 8) 0 0 0 0) (some (.int (k_pr σ (nI 8) 0 0 0 0))) (zSA D cy sb ag ad (k_pf σ (nI 8) 0 0 0 0) adD (f_X2_write δ (nI 8) 0 0 0 0)) (zRA ad adD)) (zxC (k_ref σ (nI 8) 0 0 0 0)) 1 6 (zRA ad adD) := by
  refine zmetX (by decide) rfl (Nat.le_of_ble_eq_true rfl) rfl (fun p e s m below meth c ls X hml hr hlocks hex hv hl => ?_)
  obtain ⟨hK, hE, hO, hW, hWD⟩ := hv
  obtain ⟨hx, hb, -, -⟩ := id X
  have hl : lv_has ls 1 [(0, .ref sb)] := hl
  have hA : ∀ q, zrg ad zsL q → zRA ad adD q := fun q h => Or.inl h
  have hAD : ∀ q, zrg adD zsD q → zRA ad adD q := fun q h => Or.inr h
  refine lv_aload_n hx hb dX9_load_0 rfl (lv_at hl 0 rfl) ?_
  refine lv_bipush (v := 8) hx hb dX9_load_1 (by decide) ?_
  refine lv_iconst (v := 0) hx hb dX9_load_3 (by decide) ?_
  refine lv_iconst (v := 0) hx hb dX9_load_4 (by decide) ?_
  refine lv_iconst (v := 0) hx hb dX9_load_5 (by decide) ?_
  refine lv_iconst (v := 0) hx hb dX9_load_6 (by decide) ?_
  refine zcallXV (As := [.int 8, .int 0, .int 0, .int 0, .int 0]) (rest := []) X hml hK hE ⟨hO, hW, hWD⟩ (ctX9_act l hl0 D cy rf sb ag ad σ adD δ hJ 8 (by decide) 0 0 0 0 hV hc hfull) zmX9_act (by decide) m_653 (zrecv hK hO rfl) ⟨(Nat.le_of_ble_eq_true rfl), (Nat.le_of_ble_eq_true rfl)⟩ ⟨(Nat.le_of_ble_eq_true rfl), (Nat.le_of_ble_eq_true rfl)⟩ rfl hl.1 rfl (Nat.le_of_ble_eq_true rfl) dX9_load_7 va_S.rf (fun _ h => h) (fun _ => rfl) hex hlocks (fun _ _ => rfl) (Nat.le_of_ble_eq_true rfl) (Nat.le_of_ble_eq_true rfl) (fun h0 H locs hG9 hsz hfr hS => ?_)
  obtain ⟨hO, hW, hWD⟩ := hG9
  exact zx_i hx hb hr hlocks (show k_ref σ (nI 8) 0 0 0 0 = 0 from h0) rfl ⟨hO, hW, hWD⟩ hS (Nat.le_of_ble_eq_true rfl) (Nat.le_of_ble_eq_true rfl) dX9_load_10
theorem zmX9_board : zmV yX9_board RX9 cX9_board 4 (some .int) 3 := ⟨m_879, m_880, m_1, m_881, rfl, by decide, by decide, by decide +kernel⟩
set_option maxRecDepth 100000 in
set_option maxHeartbeats 4000000 in
theorem ctX9_board (l : Launch) (hl0 : l.stackTraces = false) (D : va_G) (cy : Nat → ClassId) (rf : Nat → Nat) (sb ag : Nat) (ad : Nat → Nat → Nat) (σ : zS) (adD : Nat → Nat → Nat) (δ : zS) (hJ : zJ sb ad adD) (w1 : Int32) (w2 : Int32) (w3 : Int32) (hV : zV σ) (hc : zbd δ 200 512) (hfull : k_full δ = false) : vx_Met l yX9_board (zw yX9_board cX9_board 4 (some .int)) (zrx 8 1 6) (va_Pc [.ref sb, .int w1, .int w2, .int w3] (zBE D cy rf (zSA D cy sb ag ad σ adD δ))) (zxQ (k_ref σ (nI 9) w1 w2 w3 0) (some (.int (k_pr σ (nI 9) w1 w2 w3 0))) (zSA D cy sb ag ad (k_pf σ (nI 9) w1 w2 w3 0) adD (f_X2_write δ (nI 9) w1 w2 w3 0)) (zRA ad adD)) (zxC (k_ref σ (nI 9) w1 w2 w3 0)) 1 6 (zRA ad adD) := by
  refine zmetX (by decide) rfl (Nat.le_of_ble_eq_true rfl) rfl (fun p e s m below meth c ls X hml hr hlocks hex hv hl => ?_)
  obtain ⟨hK, hE, hO, hW, hWD⟩ := hv
  obtain ⟨hx, hb, -, -⟩ := id X
  have hl : lv_has ls 4 [(0, .ref sb), (1, .int w1), (2, .int w2), (3, .int w3)] := hl
  have hA : ∀ q, zrg ad zsL q → zRA ad adD q := fun q h => Or.inl h
  have hAD : ∀ q, zrg adD zsD q → zRA ad adD q := fun q h => Or.inr h
  refine lv_aload_n hx hb dX9_board_0 rfl (lv_at hl 0 rfl) ?_
  refine lv_bipush (v := 9) hx hb dX9_board_1 (by decide) ?_
  refine lv_iload_n hx hb dX9_board_3 rfl (lv_at hl 1 rfl) ?_
  refine lv_iload_n hx hb dX9_board_4 rfl (lv_at hl 2 rfl) ?_
  refine lv_iload_n hx hb dX9_board_5 rfl (lv_at hl 3 rfl) ?_
  refine lv_iconst (v := 0) hx hb dX9_board_6 (by decide) ?_
  refine zcallXV (As := [.int 9, .int w1, .int w2, .int w3, .int 0]) (rest := []) X hml hK hE ⟨hO, hW, hWD⟩ (ctX9_act l hl0 D cy rf sb ag ad σ adD δ hJ 9 (by decide) w1 w2 w3 0 hV hc hfull) zmX9_act (by decide) m_653 (zrecv hK hO rfl) ⟨(Nat.le_of_ble_eq_true rfl), (Nat.le_of_ble_eq_true rfl)⟩ ⟨(Nat.le_of_ble_eq_true rfl), (Nat.le_of_ble_eq_true rfl)⟩ rfl hl.1 rfl (Nat.le_of_ble_eq_true rfl) dX9_board_7 va_S.rf (fun _ h => h) (fun _ => rfl) hex hlocks (fun _ _ => rfl) (Nat.le_of_ble_eq_true rfl) (Nat.le_of_ble_eq_true rfl) (fun h0 H locs hG9 hsz hfr hS => ?_)
  obtain ⟨hO, hW, hWD⟩ := hG9
  exact zx_i hx hb hr hlocks (show k_ref σ (nI 9) w1 w2 w3 0 = 0 from h0) rfl ⟨hO, hW, hWD⟩ hS (Nat.le_of_ble_eq_true rfl) (Nat.le_of_ble_eq_true rfl) dX9_board_10
theorem zmX9_leave : zmV yX9_leave RX9 cX9_leave 2 (some .int) 1 := ⟨m_909, m_910, m_1, m_911, rfl, by decide, by decide, by decide +kernel⟩
set_option maxRecDepth 100000 in
set_option maxHeartbeats 4000000 in
theorem ctX9_leave (l : Launch) (hl0 : l.stackTraces = false) (D : va_G) (cy : Nat → ClassId) (rf : Nat → Nat) (sb ag : Nat) (ad : Nat → Nat → Nat) (σ : zS) (adD : Nat → Nat → Nat) (δ : zS) (hJ : zJ sb ad adD) (w1 : Int32) (hV : zV σ) (hc : zbd δ 200 512) (hfull : k_full δ = false) : vx_Met l yX9_leave (zw yX9_leave cX9_leave 2 (some .int)) (zrx 8 1 6) (va_Pc [.ref sb, .int w1] (zBE D cy rf (zSA D cy sb ag ad σ adD δ))) (zxQ (k_ref σ (nI 10) w1 0 0 0) (some (.int (k_pr σ (nI 10) w1 0 0 0))) (zSA D cy sb ag ad (k_pf σ (nI 10) w1 0 0 0) adD (f_X2_write δ (nI 10) w1 0 0 0)) (zRA ad adD)) (zxC (k_ref σ (nI 10) w1 0 0 0)) 1 6 (zRA ad adD) := by
  refine zmetX (by decide) rfl (Nat.le_of_ble_eq_true rfl) rfl (fun p e s m below meth c ls X hml hr hlocks hex hv hl => ?_)
  obtain ⟨hK, hE, hO, hW, hWD⟩ := hv
  obtain ⟨hx, hb, -, -⟩ := id X
  have hl : lv_has ls 2 [(0, .ref sb), (1, .int w1)] := hl
  have hA : ∀ q, zrg ad zsL q → zRA ad adD q := fun q h => Or.inl h
  have hAD : ∀ q, zrg adD zsD q → zRA ad adD q := fun q h => Or.inr h
  refine lv_aload_n hx hb dX9_leave_0 rfl (lv_at hl 0 rfl) ?_
  refine lv_bipush (v := 10) hx hb dX9_leave_1 (by decide) ?_
  refine lv_iload_n hx hb dX9_leave_3 rfl (lv_at hl 1 rfl) ?_
  refine lv_iconst (v := 0) hx hb dX9_leave_4 (by decide) ?_
  refine lv_iconst (v := 0) hx hb dX9_leave_5 (by decide) ?_
  refine lv_iconst (v := 0) hx hb dX9_leave_6 (by decide) ?_
  refine zcallXV (As := [.int 10, .int w1, .int 0, .int 0, .int 0]) (rest := []) X hml hK hE ⟨hO, hW, hWD⟩ (ctX9_act l hl0 D cy rf sb ag ad σ adD δ hJ 10 (by decide) w1 0 0 0 hV hc hfull) zmX9_act (by decide) m_653 (zrecv hK hO rfl) ⟨(Nat.le_of_ble_eq_true rfl), (Nat.le_of_ble_eq_true rfl)⟩ ⟨(Nat.le_of_ble_eq_true rfl), (Nat.le_of_ble_eq_true rfl)⟩ rfl hl.1 rfl (Nat.le_of_ble_eq_true rfl) dX9_leave_7 va_S.rf (fun _ h => h) (fun _ => rfl) hex hlocks (fun _ _ => rfl) (Nat.le_of_ble_eq_true rfl) (Nat.le_of_ble_eq_true rfl) (fun h0 H locs hG9 hsz hfr hS => ?_)
  obtain ⟨hO, hW, hWD⟩ := hG9
  exact zx_i hx hb hr hlocks (show k_ref σ (nI 10) w1 0 0 0 = 0 from h0) rfl ⟨hO, hW, hWD⟩ hS (Nat.le_of_ble_eq_true rfl) (Nat.le_of_ble_eq_true rfl) dX9_leave_10
theorem zmX9_jump : zmV yX9_jump RX9 cX9_jump 3 (some .int) 2 := ⟨m_902, m_903, m_1, m_904, rfl, by decide, by decide, by decide +kernel⟩
set_option maxRecDepth 100000 in
set_option maxHeartbeats 4000000 in
theorem ctX9_jump (l : Launch) (hl0 : l.stackTraces = false) (D : va_G) (cy : Nat → ClassId) (rf : Nat → Nat) (sb ag : Nat) (ad : Nat → Nat → Nat) (σ : zS) (adD : Nat → Nat → Nat) (δ : zS) (hJ : zJ sb ad adD) (w1 : Int32) (w2 : Int32) (hV : zV σ) (hc : zbd δ 200 512) (hfull : k_full δ = false) : vx_Met l yX9_jump (zw yX9_jump cX9_jump 3 (some .int)) (zrx 8 1 6) (va_Pc [.ref sb, .int w1, .int w2] (zBE D cy rf (zSA D cy sb ag ad σ adD δ))) (zxQ (k_ref σ (nI 11) w1 w2 0 0) (some (.int (k_pr σ (nI 11) w1 w2 0 0))) (zSA D cy sb ag ad (k_pf σ (nI 11) w1 w2 0 0) adD (f_X2_write δ (nI 11) w1 w2 0 0)) (zRA ad adD)) (zxC (k_ref σ (nI 11) w1 w2 0 0)) 1 6 (zRA ad adD) := by
  refine zmetX (by decide) rfl (Nat.le_of_ble_eq_true rfl) rfl (fun p e s m below meth c ls X hml hr hlocks hex hv hl => ?_)
  obtain ⟨hK, hE, hO, hW, hWD⟩ := hv
  obtain ⟨hx, hb, -, -⟩ := id X
  have hl : lv_has ls 3 [(0, .ref sb), (1, .int w1), (2, .int w2)] := hl
  have hA : ∀ q, zrg ad zsL q → zRA ad adD q := fun q h => Or.inl h
  have hAD : ∀ q, zrg adD zsD q → zRA ad adD q := fun q h => Or.inr h
  refine lv_aload_n hx hb dX9_jump_0 rfl (lv_at hl 0 rfl) ?_
  refine lv_bipush (v := 11) hx hb dX9_jump_1 (by decide) ?_
  refine lv_iload_n hx hb dX9_jump_3 rfl (lv_at hl 1 rfl) ?_
  refine lv_iload_n hx hb dX9_jump_4 rfl (lv_at hl 2 rfl) ?_
  refine lv_iconst (v := 0) hx hb dX9_jump_5 (by decide) ?_
  refine lv_iconst (v := 0) hx hb dX9_jump_6 (by decide) ?_
  refine zcallXV (As := [.int 11, .int w1, .int w2, .int 0, .int 0]) (rest := []) X hml hK hE ⟨hO, hW, hWD⟩ (ctX9_act l hl0 D cy rf sb ag ad σ adD δ hJ 11 (by decide) w1 w2 0 0 hV hc hfull) zmX9_act (by decide) m_653 (zrecv hK hO rfl) ⟨(Nat.le_of_ble_eq_true rfl), (Nat.le_of_ble_eq_true rfl)⟩ ⟨(Nat.le_of_ble_eq_true rfl), (Nat.le_of_ble_eq_true rfl)⟩ rfl hl.1 rfl (Nat.le_of_ble_eq_true rfl) dX9_jump_7 va_S.rf (fun _ h => h) (fun _ => rfl) hex hlocks (fun _ _ => rfl) (Nat.le_of_ble_eq_true rfl) (Nat.le_of_ble_eq_true rfl) (fun h0 H locs hG9 hsz hfr hS => ?_)
  obtain ⟨hO, hW, hWD⟩ := hG9
  exact zx_i hx hb hr hlocks (show k_ref σ (nI 11) w1 w2 0 0 = 0 from h0) rfl ⟨hO, hW, hWD⟩ hS (Nat.le_of_ble_eq_true rfl) (Nat.le_of_ble_eq_true rfl) dX9_jump_10
theorem zmX9_find : zmV yX9_find RX9 cX9_find 2 (some .int) 1 := ⟨m_930, m_931, m_1, m_932, rfl, by decide, by decide, by decide +kernel⟩
set_option maxRecDepth 100000 in
set_option maxHeartbeats 4000000 in
theorem ctX9_find (l : Launch) (hl0 : l.stackTraces = false) (D : va_G) (cy : Nat → ClassId) (rf : Nat → Nat) (sb ag : Nat) (ad : Nat → Nat → Nat) (σ : zS) (adD : Nat → Nat → Nat) (δ : zS) (hJ : zJ sb ad adD) (w1 : Int32) (hV : zV σ) (hc : zbd δ 200 512) (hfull : k_full δ = false) : vx_Met l yX9_find (zw yX9_find cX9_find 2 (some .int)) (zrx 8 1 6) (va_Pc [.ref sb, .int w1] (zBE D cy rf (zSA D cy sb ag ad σ adD δ))) (zxQ (k_ref σ (nI 12) w1 0 0 0) (some (.int (k_pr σ (nI 12) w1 0 0 0))) (zSA D cy sb ag ad (k_pf σ (nI 12) w1 0 0 0) adD (f_X2_write δ (nI 12) w1 0 0 0)) (zRA ad adD)) (zxC (k_ref σ (nI 12) w1 0 0 0)) 1 6 (zRA ad adD) := by
  refine zmetX (by decide) rfl (Nat.le_of_ble_eq_true rfl) rfl (fun p e s m below meth c ls X hml hr hlocks hex hv hl => ?_)
  obtain ⟨hK, hE, hO, hW, hWD⟩ := hv
  obtain ⟨hx, hb, -, -⟩ := id X
  have hl : lv_has ls 2 [(0, .ref sb), (1, .int w1)] := hl
  have hA : ∀ q, zrg ad zsL q → zRA ad adD q := fun q h => Or.inl h
  have hAD : ∀ q, zrg adD zsD q → zRA ad adD q := fun q h => Or.inr h
  refine lv_aload_n hx hb dX9_find_0 rfl (lv_at hl 0 rfl) ?_
  refine lv_bipush (v := 12) hx hb dX9_find_1 (by decide) ?_
  refine lv_iload_n hx hb dX9_find_3 rfl (lv_at hl 1 rfl) ?_
  refine lv_iconst (v := 0) hx hb dX9_find_4 (by decide) ?_
  refine lv_iconst (v := 0) hx hb dX9_find_5 (by decide) ?_
  refine lv_iconst (v := 0) hx hb dX9_find_6 (by decide) ?_
  refine zcallXV (As := [.int 12, .int w1, .int 0, .int 0, .int 0]) (rest := []) X hml hK hE ⟨hO, hW, hWD⟩ (ctX9_act l hl0 D cy rf sb ag ad σ adD δ hJ 12 (by decide) w1 0 0 0 hV hc hfull) zmX9_act (by decide) m_653 (zrecv hK hO rfl) ⟨(Nat.le_of_ble_eq_true rfl), (Nat.le_of_ble_eq_true rfl)⟩ ⟨(Nat.le_of_ble_eq_true rfl), (Nat.le_of_ble_eq_true rfl)⟩ rfl hl.1 rfl (Nat.le_of_ble_eq_true rfl) dX9_find_7 va_S.rf (fun _ h => h) (fun _ => rfl) hex hlocks (fun _ _ => rfl) (Nat.le_of_ble_eq_true rfl) (Nat.le_of_ble_eq_true rfl) (fun h0 H locs hG9 hsz hfr hS => ?_)
  obtain ⟨hO, hW, hWD⟩ := hG9
  exact zx_i hx hb hr hlocks (show k_ref σ (nI 12) w1 0 0 0 = 0 from h0) rfl ⟨hO, hW, hWD⟩ hS (Nat.le_of_ble_eq_true rfl) (Nat.le_of_ble_eq_true rfl) dX9_find_10
theorem zmX9_widen : zmV yX9_widen RX9 cX9_widen 2 (some .int) 1 := ⟨m_950, m_951, m_1, m_952, rfl, by decide, by decide, by decide +kernel⟩
set_option maxRecDepth 100000 in
set_option maxHeartbeats 4000000 in
theorem ctX9_widen (l : Launch) (hl0 : l.stackTraces = false) (D : va_G) (cy : Nat → ClassId) (rf : Nat → Nat) (sb ag : Nat) (ad : Nat → Nat → Nat) (σ : zS) (adD : Nat → Nat → Nat) (δ : zS) (hJ : zJ sb ad adD) (w1 : Int32) (hV : zV σ) (hc : zbd δ 200 512) (hfull : k_full δ = false) : vx_Met l yX9_widen (zw yX9_widen cX9_widen 2 (some .int)) (zrx 8 1 6) (va_Pc [.ref sb, .int w1] (zBE D cy rf (zSA D cy sb ag ad σ adD δ))) (zxQ (k_ref σ (nI 13) w1 0 0 0) (some (.int (k_pr σ (nI 13) w1 0 0 0))) (zSA D cy sb ag ad (k_pf σ (nI 13) w1 0 0 0) adD (f_X2_write δ (nI 13) w1 0 0 0)) (zRA ad adD)) (zxC (k_ref σ (nI 13) w1 0 0 0)) 1 6 (zRA ad adD) := by
  refine zmetX (by decide) rfl (Nat.le_of_ble_eq_true rfl) rfl (fun p e s m below meth c ls X hml hr hlocks hex hv hl => ?_)
  obtain ⟨hK, hE, hO, hW, hWD⟩ := hv
  obtain ⟨hx, hb, -, -⟩ := id X
  have hl : lv_has ls 2 [(0, .ref sb), (1, .int w1)] := hl
  have hA : ∀ q, zrg ad zsL q → zRA ad adD q := fun q h => Or.inl h
  have hAD : ∀ q, zrg adD zsD q → zRA ad adD q := fun q h => Or.inr h
  refine lv_aload_n hx hb dX9_widen_0 rfl (lv_at hl 0 rfl) ?_
  refine lv_bipush (v := 13) hx hb dX9_widen_1 (by decide) ?_
  refine lv_iload_n hx hb dX9_widen_3 rfl (lv_at hl 1 rfl) ?_
  refine lv_iconst (v := 0) hx hb dX9_widen_4 (by decide) ?_
  refine lv_iconst (v := 0) hx hb dX9_widen_5 (by decide) ?_
  refine lv_iconst (v := 0) hx hb dX9_widen_6 (by decide) ?_
  refine zcallXV (As := [.int 13, .int w1, .int 0, .int 0, .int 0]) (rest := []) X hml hK hE ⟨hO, hW, hWD⟩ (ctX9_act l hl0 D cy rf sb ag ad σ adD δ hJ 13 (by decide) w1 0 0 0 hV hc hfull) zmX9_act (by decide) m_653 (zrecv hK hO rfl) ⟨(Nat.le_of_ble_eq_true rfl), (Nat.le_of_ble_eq_true rfl)⟩ ⟨(Nat.le_of_ble_eq_true rfl), (Nat.le_of_ble_eq_true rfl)⟩ rfl hl.1 rfl (Nat.le_of_ble_eq_true rfl) dX9_widen_7 va_S.rf (fun _ h => h) (fun _ => rfl) hex hlocks (fun _ _ => rfl) (Nat.le_of_ble_eq_true rfl) (Nat.le_of_ble_eq_true rfl) (fun h0 H locs hG9 hsz hfr hS => ?_)
  obtain ⟨hO, hW, hWD⟩ := hG9
  exact zx_i hx hb hr hlocks (show k_ref σ (nI 13) w1 0 0 0 = 0 from h0) rfl ⟨hO, hW, hWD⟩ hS (Nat.le_of_ble_eq_true rfl) (Nat.le_of_ble_eq_true rfl) dX9_widen_10
theorem zmX9_tellCause : zmV yX9_tellCause RX9 cX9_tellCause 3 (some .char) 2 := ⟨m_998, m_999, m_1, m_1000, rfl, by decide, by decide, by decide +kernel⟩
set_option maxRecDepth 100000 in
set_option maxHeartbeats 4000000 in
theorem ctX9_tellCause (l : Launch) (hl0 : l.stackTraces = false) (D : va_G) (cy : Nat → ClassId) (rf : Nat → Nat) (sb ag : Nat) (ad : Nat → Nat → Nat) (σ : zS) (adD : Nat → Nat → Nat) (δ : zS) (hJ : zJ sb ad adD) (w1 : Int32) (w2 : Int32) (hV : zV σ) (hc : zbd δ 200 512) (hfull : k_full δ = false) : vx_Met l yX9_tellCause (zw yX9_tellCause cX9_tellCause 3 (some .char)) (zrx 8 1 6) (va_Pc [.ref sb, .int w1, .int w2] (zBE D cy rf (zSA D cy sb ag ad σ adD δ))) (zxQ (k_ref σ (nI 14) w1 w2 0 0) (some (.int (((k_pr σ (nI 14) w1 w2 0 0).toUInt32 % 65536).toInt32))) (zSA D cy sb ag ad (k_pf σ (nI 14) w1 w2 0 0) adD (f_X2_write δ (nI 14) w1 w2 0 0)) (zRA ad adD)) (zxC (k_ref σ (nI 14) w1 w2 0 0)) 1 6 (zRA ad adD) := by
  refine zmetX (by decide) rfl (Nat.le_of_ble_eq_true rfl) rfl (fun p e s m below meth c ls X hml hr hlocks hex hv hl => ?_)
  obtain ⟨hK, hE, hO, hW, hWD⟩ := hv
  obtain ⟨hx, hb, -, -⟩ := id X
  have hl : lv_has ls 3 [(0, .ref sb), (1, .int w1), (2, .int w2)] := hl
  have hA : ∀ q, zrg ad zsL q → zRA ad adD q := fun q h => Or.inl h
  have hAD : ∀ q, zrg adD zsD q → zRA ad adD q := fun q h => Or.inr h
  refine lv_aload_n hx hb dX9_tellCause_0 rfl (lv_at hl 0 rfl) ?_
  refine lv_bipush (v := 14) hx hb dX9_tellCause_1 (by decide) ?_
  refine lv_iload_n hx hb dX9_tellCause_3 rfl (lv_at hl 1 rfl) ?_
  refine lv_iload_n hx hb dX9_tellCause_4 rfl (lv_at hl 2 rfl) ?_
  refine lv_iconst (v := 0) hx hb dX9_tellCause_5 (by decide) ?_
  refine lv_iconst (v := 0) hx hb dX9_tellCause_6 (by decide) ?_
  refine zcallXV (As := [.int 14, .int w1, .int w2, .int 0, .int 0]) (rest := []) X hml hK hE ⟨hO, hW, hWD⟩ (ctX9_act l hl0 D cy rf sb ag ad σ adD δ hJ 14 (by decide) w1 w2 0 0 hV hc hfull) zmX9_act (by decide) m_653 (zrecv hK hO rfl) ⟨(Nat.le_of_ble_eq_true rfl), (Nat.le_of_ble_eq_true rfl)⟩ ⟨(Nat.le_of_ble_eq_true rfl), (Nat.le_of_ble_eq_true rfl)⟩ rfl hl.1 rfl (Nat.le_of_ble_eq_true rfl) dX9_tellCause_7 va_S.rf (fun _ h => h) (fun _ => rfl) hex hlocks (fun _ _ => rfl) (Nat.le_of_ble_eq_true rfl) (Nat.le_of_ble_eq_true rfl) (fun h0 H locs hG9 hsz hfr hS => ?_)
  obtain ⟨hO, hW, hWD⟩ := hG9
  refine lv_i2c (v := ((k_pr σ (nI 14) w1 w2 0 0).toUInt32 % 65536).toInt32) hx hb dX9_tellCause_10 rfl ?_
  exact zx_c hx hb hr hlocks (show k_ref σ (nI 14) w1 w2 0 0 = 0 from h0) rfl (pk_nc _) ⟨hO, hW, hWD⟩ hS (Nat.le_of_ble_eq_true rfl) (Nat.le_of_ble_eq_true rfl) dX9_tellCause_11
theorem zmX9_close : zmV yX9_close RX9 cX9_close 2 (some .boolean) 1 := ⟨m_1005, m_1006, m_1, m_1007, rfl, by decide, by decide, by decide +kernel⟩
set_option maxRecDepth 100000 in
set_option maxHeartbeats 4000000 in
theorem ctX9_close (l : Launch) (hl0 : l.stackTraces = false) (D : va_G) (cy : Nat → ClassId) (rf : Nat → Nat) (sb ag : Nat) (ad : Nat → Nat → Nat) (σ : zS) (adD : Nat → Nat → Nat) (δ : zS) (hJ : zJ sb ad adD) (w1 : Int32) (hV : zV σ) (hc : zbd δ 200 512) (hfull : k_full δ = false) : vx_Met l yX9_close (zw yX9_close cX9_close 2 (some .boolean)) (zrx 8 1 6) (va_Pc [.ref sb, .int w1] (zBE D cy rf (zSA D cy sb ag ad σ adD δ))) (zxQ (k_ref σ (nI 15) w1 0 0 0) (some (.int (bI (decide (k_pr σ (nI 15) w1 0 0 0 = 1))))) (zSA D cy sb ag ad (k_pf σ (nI 15) w1 0 0 0) adD (f_X2_write δ (nI 15) w1 0 0 0)) (zRA ad adD)) (zxC (k_ref σ (nI 15) w1 0 0 0)) 1 6 (zRA ad adD) := by
  refine zmetX (by decide) rfl (Nat.le_of_ble_eq_true rfl) rfl (fun p e s m below meth c ls X hml hr hlocks hex hv hl => ?_)
  obtain ⟨hK, hE, hO, hW, hWD⟩ := hv
  obtain ⟨hx, hb, -, -⟩ := id X
  have hl : lv_has ls 2 [(0, .ref sb), (1, .int w1)] := hl
  have hA : ∀ q, zrg ad zsL q → zRA ad adD q := fun q h => Or.inl h
  have hAD : ∀ q, zrg adD zsD q → zRA ad adD q := fun q h => Or.inr h
  refine lv_aload_n hx hb dX9_close_0 rfl (lv_at hl 0 rfl) ?_
  refine lv_bipush (v := 15) hx hb dX9_close_1 (by decide) ?_
  refine lv_iload_n hx hb dX9_close_3 rfl (lv_at hl 1 rfl) ?_
  refine lv_iconst (v := 0) hx hb dX9_close_4 (by decide) ?_
  refine lv_iconst (v := 0) hx hb dX9_close_5 (by decide) ?_
  refine lv_iconst (v := 0) hx hb dX9_close_6 (by decide) ?_
  refine zcallXV (As := [.int 15, .int w1, .int 0, .int 0, .int 0]) (rest := []) X hml hK hE ⟨hO, hW, hWD⟩ (ctX9_act l hl0 D cy rf sb ag ad σ adD δ hJ 15 (by decide) w1 0 0 0 hV hc hfull) zmX9_act (by decide) m_653 (zrecv hK hO rfl) ⟨(Nat.le_of_ble_eq_true rfl), (Nat.le_of_ble_eq_true rfl)⟩ ⟨(Nat.le_of_ble_eq_true rfl), (Nat.le_of_ble_eq_true rfl)⟩ rfl hl.1 rfl (Nat.le_of_ble_eq_true rfl) dX9_close_7 va_S.rf (fun _ h => h) (fun _ => rfl) hex hlocks (fun _ _ => rfl) (Nat.le_of_ble_eq_true rfl) (Nat.le_of_ble_eq_true rfl) (fun h0 H locs hG9 hsz hfr hS => ?_)
  obtain ⟨hO, hW, hWD⟩ := hG9
  refine lv_iconst (v := 1) hx hb dX9_close_10 (by decide) ?_
  refine lv_icmp_ne (tgt := 18) hx hb dX9_close_11 (by decide) (fun b1 => ?_) (fun b1 => ?_)
  · refine lv_iconst (v := 0) hx hb dX9_close_18 (by decide) ?_
    exact zx_z hx hb hr hlocks (show k_ref σ (nI 15) w1 0 0 0 = 0 from h0) (by simp [bI_t, bI_f, b1, Ne.symm b1]) ⟨hO, hW, hWD⟩ hS (Nat.le_of_ble_eq_true rfl) (Nat.le_of_ble_eq_true rfl) dX9_close_19
  · refine lv_iconst (v := 1) hx hb dX9_close_14 (by decide) ?_
    refine lv_goto (tgt := 19) hx hb dX9_close_15 (by decide) ?_
    exact zx_z hx hb hr hlocks (show k_ref σ (nI 15) w1 0 0 0 = 0 from h0) (by simp [bI_t, bI_f, b1]) ⟨hO, hW, hWD⟩ hS (Nat.le_of_ble_eq_true rfl) (Nat.le_of_ble_eq_true rfl) dX9_close_19
theorem zmX9_repair : zmV yX9_repair RX9 cX9_repair 3 (some .int) 2 := ⟨m_923, m_924, m_1, m_925, rfl, by decide, by decide, by decide +kernel⟩
set_option maxRecDepth 100000 in
set_option maxHeartbeats 4000000 in
theorem ctX9_repair (l : Launch) (hl0 : l.stackTraces = false) (D : va_G) (cy : Nat → ClassId) (rf : Nat → Nat) (sb ag : Nat) (ad : Nat → Nat → Nat) (σ : zS) (adD : Nat → Nat → Nat) (δ : zS) (hJ : zJ sb ad adD) (w1 : Int32) (w2 : Int32) (hV : zV σ) (hc : zbd δ 200 512) (hfull : k_full δ = false) : vx_Met l yX9_repair (zw yX9_repair cX9_repair 3 (some .int)) (zrx 8 1 6) (va_Pc [.ref sb, .int w1, .int w2] (zBE D cy rf (zSA D cy sb ag ad σ adD δ))) (zxQ (k_ref σ (nI 16) w1 w2 0 0) (some (.int (k_pr σ (nI 16) w1 w2 0 0))) (zSA D cy sb ag ad (k_pf σ (nI 16) w1 w2 0 0) adD (f_X2_write δ (nI 16) w1 w2 0 0)) (zRA ad adD)) (zxC (k_ref σ (nI 16) w1 w2 0 0)) 1 6 (zRA ad adD) := by
  refine zmetX (by decide) rfl (Nat.le_of_ble_eq_true rfl) rfl (fun p e s m below meth c ls X hml hr hlocks hex hv hl => ?_)
  obtain ⟨hK, hE, hO, hW, hWD⟩ := hv
  obtain ⟨hx, hb, -, -⟩ := id X
  have hl : lv_has ls 3 [(0, .ref sb), (1, .int w1), (2, .int w2)] := hl
  have hA : ∀ q, zrg ad zsL q → zRA ad adD q := fun q h => Or.inl h
  have hAD : ∀ q, zrg adD zsD q → zRA ad adD q := fun q h => Or.inr h
  refine lv_aload_n hx hb dX9_repair_0 rfl (lv_at hl 0 rfl) ?_
  refine lv_bipush (v := 16) hx hb dX9_repair_1 (by decide) ?_
  refine lv_iload_n hx hb dX9_repair_3 rfl (lv_at hl 1 rfl) ?_
  refine lv_iload_n hx hb dX9_repair_4 rfl (lv_at hl 2 rfl) ?_
  refine lv_iconst (v := 0) hx hb dX9_repair_5 (by decide) ?_
  refine lv_iconst (v := 0) hx hb dX9_repair_6 (by decide) ?_
  refine zcallXV (As := [.int 16, .int w1, .int w2, .int 0, .int 0]) (rest := []) X hml hK hE ⟨hO, hW, hWD⟩ (ctX9_act l hl0 D cy rf sb ag ad σ adD δ hJ 16 (by decide) w1 w2 0 0 hV hc hfull) zmX9_act (by decide) m_653 (zrecv hK hO rfl) ⟨(Nat.le_of_ble_eq_true rfl), (Nat.le_of_ble_eq_true rfl)⟩ ⟨(Nat.le_of_ble_eq_true rfl), (Nat.le_of_ble_eq_true rfl)⟩ rfl hl.1 rfl (Nat.le_of_ble_eq_true rfl) dX9_repair_7 va_S.rf (fun _ h => h) (fun _ => rfl) hex hlocks (fun _ _ => rfl) (Nat.le_of_ble_eq_true rfl) (Nat.le_of_ble_eq_true rfl) (fun h0 H locs hG9 hsz hfr hS => ?_)
  obtain ⟨hO, hW, hWD⟩ := hG9
  exact zx_i hx hb hr hlocks (show k_ref σ (nI 16) w1 w2 0 0 = 0 from h0) rfl ⟨hO, hW, hWD⟩ hS (Nat.le_of_ble_eq_true rfl) (Nat.le_of_ble_eq_true rfl) dX9_repair_10
theorem zmX9_drop : zmV yX9_drop RX9 cX9_drop 3 (some .int) 2 := ⟨m_916, m_917, m_1, m_918, rfl, by decide, by decide, by decide +kernel⟩
set_option maxRecDepth 100000 in
set_option maxHeartbeats 4000000 in
theorem ctX9_drop (l : Launch) (hl0 : l.stackTraces = false) (D : va_G) (cy : Nat → ClassId) (rf : Nat → Nat) (sb ag : Nat) (ad : Nat → Nat → Nat) (σ : zS) (adD : Nat → Nat → Nat) (δ : zS) (hJ : zJ sb ad adD) (w1 : Int32) (w2 : Bool) (hV : zV σ) (hc : zbd δ 200 512) (hfull : k_full δ = false) : vx_Met l yX9_drop (zw yX9_drop cX9_drop 3 (some .int)) (zrx 8 1 6) (va_Pc [.ref sb, .int w1, .int (bI w2)] (zBE D cy rf (zSA D cy sb ag ad σ adD δ))) (zxQ (k_ref σ (nI 17) w1 (bI w2) 0 0) (some (.int (k_pr σ (nI 17) w1 (bI w2) 0 0))) (zSA D cy sb ag ad (k_pf σ (nI 17) w1 (bI w2) 0 0) adD (f_X2_write δ (nI 17) w1 (bI w2) 0 0)) (zRA ad adD)) (zxC (k_ref σ (nI 17) w1 (bI w2) 0 0)) 1 6 (zRA ad adD) := by
  refine zmetX (by decide) rfl (Nat.le_of_ble_eq_true rfl) rfl (fun p e s m below meth c ls X hml hr hlocks hex hv hl => ?_)
  obtain ⟨hK, hE, hO, hW, hWD⟩ := hv
  obtain ⟨hx, hb, -, -⟩ := id X
  have hl : lv_has ls 3 [(0, .ref sb), (1, .int w1), (2, .int (bI w2))] := hl
  have hA : ∀ q, zrg ad zsL q → zRA ad adD q := fun q h => Or.inl h
  have hAD : ∀ q, zrg adD zsD q → zRA ad adD q := fun q h => Or.inr h
  refine lv_aload_n hx hb dX9_drop_0 rfl (lv_at hl 0 rfl) ?_
  refine lv_bipush (v := 17) hx hb dX9_drop_1 (by decide) ?_
  refine lv_iload_n hx hb dX9_drop_3 rfl (lv_at hl 1 rfl) ?_
  refine lv_iload_n hx hb dX9_drop_4 rfl (lv_at hl 2 rfl) ?_
  refine zb_eq (tgt := 12) hx hb dX9_drop_5 (by decide) (fun b1 => ?_) (fun b1 => ?_)
  · refine lv_iconst (v := 0) hx hb dX9_drop_12 (by decide) ?_
    refine lv_iconst (v := 0) hx hb dX9_drop_13 (by decide) ?_
    refine lv_iconst (v := 0) hx hb dX9_drop_14 (by decide) ?_
    subst b1
    refine zcallXV (As := [.int 17, .int w1, .int 0, .int 0, .int 0]) (rest := []) X hml hK hE ⟨hO, hW, hWD⟩ (ctX9_act l hl0 D cy rf sb ag ad σ adD δ hJ 17 (by decide) w1 0 0 0 hV hc hfull) zmX9_act (by decide) m_653 (zrecv hK hO rfl) ⟨(Nat.le_of_ble_eq_true rfl), (Nat.le_of_ble_eq_true rfl)⟩ ⟨(Nat.le_of_ble_eq_true rfl), (Nat.le_of_ble_eq_true rfl)⟩ rfl hl.1 rfl (Nat.le_of_ble_eq_true rfl) dX9_drop_15 va_S.rf (fun _ h => h) (fun _ => rfl) hex hlocks (fun _ _ => rfl) (Nat.le_of_ble_eq_true rfl) (Nat.le_of_ble_eq_true rfl) (fun h0 H locs hG9 hsz hfr hS => ?_)
    obtain ⟨hO, hW, hWD⟩ := hG9
    exact zx_i hx hb hr hlocks (show k_ref σ (nI 17) w1 (bI false) 0 0 = 0 from h0) rfl ⟨hO, hW, hWD⟩ hS (Nat.le_of_ble_eq_true rfl) (Nat.le_of_ble_eq_true rfl) dX9_drop_18
  · refine lv_iconst (v := 1) hx hb dX9_drop_8 (by decide) ?_
    refine lv_goto (tgt := 13) hx hb dX9_drop_9 (by decide) ?_
    refine lv_iconst (v := 0) hx hb dX9_drop_13 (by decide) ?_
    refine lv_iconst (v := 0) hx hb dX9_drop_14 (by decide) ?_
    subst b1
    refine zcallXV (As := [.int 17, .int w1, .int 1, .int 0, .int 0]) (rest := []) X hml hK hE ⟨hO, hW, hWD⟩ (ctX9_act l hl0 D cy rf sb ag ad σ adD δ hJ 17 (by decide) w1 1 0 0 hV hc hfull) zmX9_act (by decide) m_653 (zrecv hK hO rfl) ⟨(Nat.le_of_ble_eq_true rfl), (Nat.le_of_ble_eq_true rfl)⟩ ⟨(Nat.le_of_ble_eq_true rfl), (Nat.le_of_ble_eq_true rfl)⟩ rfl hl.1 rfl (Nat.le_of_ble_eq_true rfl) dX9_drop_15 va_S.rf (fun _ h => h) (fun _ => rfl) hex hlocks (fun _ _ => rfl) (Nat.le_of_ble_eq_true rfl) (Nat.le_of_ble_eq_true rfl) (fun h0 H locs hG9 hsz hfr hS => ?_)
    obtain ⟨hO, hW, hWD⟩ := hG9
    exact zx_i hx hb hr hlocks (show k_ref σ (nI 17) w1 (bI true) 0 0 = 0 from h0) rfl ⟨hO, hW, hWD⟩ hS (Nat.le_of_ble_eq_true rfl) (Nat.le_of_ble_eq_true rfl) dX9_drop_18
theorem zmX9_hire : zmV yX9_hire RX9 cX9_hire 4 (some .int) 3 := ⟨m_1019, m_1020, m_1, m_1021, rfl, by decide, by decide, by decide +kernel⟩
set_option maxRecDepth 100000 in
set_option maxHeartbeats 4000000 in
theorem ctX9_hire (l : Launch) (hl0 : l.stackTraces = false) (D : va_G) (cy : Nat → ClassId) (rf : Nat → Nat) (sb ag : Nat) (ad : Nat → Nat → Nat) (σ : zS) (adD : Nat → Nat → Nat) (δ : zS) (hJ : zJ sb ad adD) (w1 : Int32) (w2 : Int32) (w3 : Int32) (hV : zV σ) (hc : zbd δ 200 512) (hfull : k_full δ = false) : vx_Met l yX9_hire (zw yX9_hire cX9_hire 4 (some .int)) (zrx 8 1 6) (va_Pc [.ref sb, .int w1, .int w2, .int w3] (zBE D cy rf (zSA D cy sb ag ad σ adD δ))) (zxQ (k_ref σ (nI 18) w1 w2 w3 0) (some (.int (k_pr σ (nI 18) w1 w2 w3 0))) (zSA D cy sb ag ad (k_pf σ (nI 18) w1 w2 w3 0) adD (f_X2_write δ (nI 18) w1 w2 w3 0)) (zRA ad adD)) (zxC (k_ref σ (nI 18) w1 w2 w3 0)) 1 6 (zRA ad adD) := by
  refine zmetX (by decide) rfl (Nat.le_of_ble_eq_true rfl) rfl (fun p e s m below meth c ls X hml hr hlocks hex hv hl => ?_)
  obtain ⟨hK, hE, hO, hW, hWD⟩ := hv
  obtain ⟨hx, hb, -, -⟩ := id X
  have hl : lv_has ls 4 [(0, .ref sb), (1, .int w1), (2, .int w2), (3, .int w3)] := hl
  have hA : ∀ q, zrg ad zsL q → zRA ad adD q := fun q h => Or.inl h
  have hAD : ∀ q, zrg adD zsD q → zRA ad adD q := fun q h => Or.inr h
  refine lv_aload_n hx hb dX9_hire_0 rfl (lv_at hl 0 rfl) ?_
  refine lv_bipush (v := 18) hx hb dX9_hire_1 (by decide) ?_
  refine lv_iload_n hx hb dX9_hire_3 rfl (lv_at hl 1 rfl) ?_
  refine lv_iload_n hx hb dX9_hire_4 rfl (lv_at hl 2 rfl) ?_
  refine lv_iload_n hx hb dX9_hire_5 rfl (lv_at hl 3 rfl) ?_
  refine lv_iconst (v := 0) hx hb dX9_hire_6 (by decide) ?_
  refine zcallXV (As := [.int 18, .int w1, .int w2, .int w3, .int 0]) (rest := []) X hml hK hE ⟨hO, hW, hWD⟩ (ctX9_act l hl0 D cy rf sb ag ad σ adD δ hJ 18 (by decide) w1 w2 w3 0 hV hc hfull) zmX9_act (by decide) m_653 (zrecv hK hO rfl) ⟨(Nat.le_of_ble_eq_true rfl), (Nat.le_of_ble_eq_true rfl)⟩ ⟨(Nat.le_of_ble_eq_true rfl), (Nat.le_of_ble_eq_true rfl)⟩ rfl hl.1 rfl (Nat.le_of_ble_eq_true rfl) dX9_hire_7 va_S.rf (fun _ h => h) (fun _ => rfl) hex hlocks (fun _ _ => rfl) (Nat.le_of_ble_eq_true rfl) (Nat.le_of_ble_eq_true rfl) (fun h0 H locs hG9 hsz hfr hS => ?_)
  obtain ⟨hO, hW, hWD⟩ := hG9
  exact zx_i hx hb hr hlocks (show k_ref σ (nI 18) w1 w2 w3 0 = 0 from h0) rfl ⟨hO, hW, hWD⟩ hS (Nat.le_of_ble_eq_true rfl) (Nat.le_of_ble_eq_true rfl) dX9_hire_10
theorem zmX9_back : zmV yX9_back RX9 cX9_back 4 (some .int) 3 := ⟨m_1012, m_1013, m_1, m_1014, rfl, by decide, by decide, by decide +kernel⟩
set_option maxRecDepth 100000 in
set_option maxHeartbeats 4000000 in
theorem ctX9_back (l : Launch) (hl0 : l.stackTraces = false) (D : va_G) (cy : Nat → ClassId) (rf : Nat → Nat) (sb ag : Nat) (ad : Nat → Nat → Nat) (σ : zS) (adD : Nat → Nat → Nat) (δ : zS) (hJ : zJ sb ad adD) (w1 : Int32) (w2 : Bool) (w3 : Bool) (hV : zV σ) (hc : zbd δ 200 512) (hfull : k_full δ = false) : vx_Met l yX9_back (zw yX9_back cX9_back 4 (some .int)) (zrx 8 1 6) (va_Pc [.ref sb, .int w1, .int (bI w2), .int (bI w3)] (zBE D cy rf (zSA D cy sb ag ad σ adD δ))) (zxQ (k_ref σ (nI 19) w1 (bI w2) (bI w3) 0) (some (.int (k_pr σ (nI 19) w1 (bI w2) (bI w3) 0))) (zSA D cy sb ag ad (k_pf σ (nI 19) w1 (bI w2) (bI w3) 0) adD (f_X2_write δ (nI 19) w1 (bI w2) (bI w3) 0)) (zRA ad adD)) (zxC (k_ref σ (nI 19) w1 (bI w2) (bI w3) 0)) 1 6 (zRA ad adD) := by
  refine zmetX (by decide) rfl (Nat.le_of_ble_eq_true rfl) rfl (fun p e s m below meth c ls X hml hr hlocks hex hv hl => ?_)
  obtain ⟨hK, hE, hO, hW, hWD⟩ := hv
  obtain ⟨hx, hb, -, -⟩ := id X
  have hl : lv_has ls 4 [(0, .ref sb), (1, .int w1), (2, .int (bI w2)), (3, .int (bI w3))] := hl
  have hA : ∀ q, zrg ad zsL q → zRA ad adD q := fun q h => Or.inl h
  have hAD : ∀ q, zrg adD zsD q → zRA ad adD q := fun q h => Or.inr h
  refine lv_aload_n hx hb dX9_back_0 rfl (lv_at hl 0 rfl) ?_
  refine lv_bipush (v := 19) hx hb dX9_back_1 (by decide) ?_
  refine lv_iload_n hx hb dX9_back_3 rfl (lv_at hl 1 rfl) ?_
  refine lv_iload_n hx hb dX9_back_4 rfl (lv_at hl 2 rfl) ?_
  refine zb_eq (tgt := 12) hx hb dX9_back_5 (by decide) (fun b1 => ?_) (fun b1 => ?_)
  · refine lv_iconst (v := 0) hx hb dX9_back_12 (by decide) ?_
    refine lv_iload_n hx hb dX9_back_13 rfl (lv_at hl 3 rfl) ?_
    refine zb_eq (tgt := 21) hx hb dX9_back_14 (by decide) (fun b2 => ?_) (fun b2 => ?_)
    · refine lv_iconst (v := 0) hx hb dX9_back_21 (by decide) ?_
      refine lv_iconst (v := 0) hx hb dX9_back_22 (by decide) ?_
      subst b1
      subst b2
      refine zcallXV (As := [.int 19, .int w1, .int 0, .int 0, .int 0]) (rest := []) X hml hK hE ⟨hO, hW, hWD⟩ (ctX9_act l hl0 D cy rf sb ag ad σ adD δ hJ 19 (by decide) w1 0 0 0 hV hc hfull) zmX9_act (by decide) m_653 (zrecv hK hO rfl) ⟨(Nat.le_of_ble_eq_true rfl), (Nat.le_of_ble_eq_true rfl)⟩ ⟨(Nat.le_of_ble_eq_true rfl), (Nat.le_of_ble_eq_true rfl)⟩ rfl hl.1 rfl (Nat.le_of_ble_eq_true rfl) dX9_back_23 va_S.rf (fun _ h => h) (fun _ => rfl) hex hlocks (fun _ _ => rfl) (Nat.le_of_ble_eq_true rfl) (Nat.le_of_ble_eq_true rfl) (fun h0 H locs hG9 hsz hfr hS => ?_)
      obtain ⟨hO, hW, hWD⟩ := hG9
      exact zx_i hx hb hr hlocks (show k_ref σ (nI 19) w1 (bI false) (bI false) 0 = 0 from h0) rfl ⟨hO, hW, hWD⟩ hS (Nat.le_of_ble_eq_true rfl) (Nat.le_of_ble_eq_true rfl) dX9_back_26
    · refine lv_iconst (v := 1) hx hb dX9_back_17 (by decide) ?_
      refine lv_goto (tgt := 22) hx hb dX9_back_18 (by decide) ?_
      refine lv_iconst (v := 0) hx hb dX9_back_22 (by decide) ?_
      subst b1
      subst b2
      refine zcallXV (As := [.int 19, .int w1, .int 0, .int 1, .int 0]) (rest := []) X hml hK hE ⟨hO, hW, hWD⟩ (ctX9_act l hl0 D cy rf sb ag ad σ adD δ hJ 19 (by decide) w1 0 1 0 hV hc hfull) zmX9_act (by decide) m_653 (zrecv hK hO rfl) ⟨(Nat.le_of_ble_eq_true rfl), (Nat.le_of_ble_eq_true rfl)⟩ ⟨(Nat.le_of_ble_eq_true rfl), (Nat.le_of_ble_eq_true rfl)⟩ rfl hl.1 rfl (Nat.le_of_ble_eq_true rfl) dX9_back_23 va_S.rf (fun _ h => h) (fun _ => rfl) hex hlocks (fun _ _ => rfl) (Nat.le_of_ble_eq_true rfl) (Nat.le_of_ble_eq_true rfl) (fun h0 H locs hG9 hsz hfr hS => ?_)
      obtain ⟨hO, hW, hWD⟩ := hG9
      exact zx_i hx hb hr hlocks (show k_ref σ (nI 19) w1 (bI false) (bI true) 0 = 0 from h0) rfl ⟨hO, hW, hWD⟩ hS (Nat.le_of_ble_eq_true rfl) (Nat.le_of_ble_eq_true rfl) dX9_back_26
  · refine lv_iconst (v := 1) hx hb dX9_back_8 (by decide) ?_
    refine lv_goto (tgt := 13) hx hb dX9_back_9 (by decide) ?_
    refine lv_iload_n hx hb dX9_back_13 rfl (lv_at hl 3 rfl) ?_
    refine zb_eq (tgt := 21) hx hb dX9_back_14 (by decide) (fun b3 => ?_) (fun b3 => ?_)
    · refine lv_iconst (v := 0) hx hb dX9_back_21 (by decide) ?_
      refine lv_iconst (v := 0) hx hb dX9_back_22 (by decide) ?_
      subst b1
      subst b3
      refine zcallXV (As := [.int 19, .int w1, .int 1, .int 0, .int 0]) (rest := []) X hml hK hE ⟨hO, hW, hWD⟩ (ctX9_act l hl0 D cy rf sb ag ad σ adD δ hJ 19 (by decide) w1 1 0 0 hV hc hfull) zmX9_act (by decide) m_653 (zrecv hK hO rfl) ⟨(Nat.le_of_ble_eq_true rfl), (Nat.le_of_ble_eq_true rfl)⟩ ⟨(Nat.le_of_ble_eq_true rfl), (Nat.le_of_ble_eq_true rfl)⟩ rfl hl.1 rfl (Nat.le_of_ble_eq_true rfl) dX9_back_23 va_S.rf (fun _ h => h) (fun _ => rfl) hex hlocks (fun _ _ => rfl) (Nat.le_of_ble_eq_true rfl) (Nat.le_of_ble_eq_true rfl) (fun h0 H locs hG9 hsz hfr hS => ?_)
      obtain ⟨hO, hW, hWD⟩ := hG9
      exact zx_i hx hb hr hlocks (show k_ref σ (nI 19) w1 (bI true) (bI false) 0 = 0 from h0) rfl ⟨hO, hW, hWD⟩ hS (Nat.le_of_ble_eq_true rfl) (Nat.le_of_ble_eq_true rfl) dX9_back_26
    · refine lv_iconst (v := 1) hx hb dX9_back_17 (by decide) ?_
      refine lv_goto (tgt := 22) hx hb dX9_back_18 (by decide) ?_
      refine lv_iconst (v := 0) hx hb dX9_back_22 (by decide) ?_
      subst b1
      subst b3
      refine zcallXV (As := [.int 19, .int w1, .int 1, .int 1, .int 0]) (rest := []) X hml hK hE ⟨hO, hW, hWD⟩ (ctX9_act l hl0 D cy rf sb ag ad σ adD δ hJ 19 (by decide) w1 1 1 0 hV hc hfull) zmX9_act (by decide) m_653 (zrecv hK hO rfl) ⟨(Nat.le_of_ble_eq_true rfl), (Nat.le_of_ble_eq_true rfl)⟩ ⟨(Nat.le_of_ble_eq_true rfl), (Nat.le_of_ble_eq_true rfl)⟩ rfl hl.1 rfl (Nat.le_of_ble_eq_true rfl) dX9_back_23 va_S.rf (fun _ h => h) (fun _ => rfl) hex hlocks (fun _ _ => rfl) (Nat.le_of_ble_eq_true rfl) (Nat.le_of_ble_eq_true rfl) (fun h0 H locs hG9 hsz hfr hS => ?_)
      obtain ⟨hO, hW, hWD⟩ := hG9
      exact zx_i hx hb hr hlocks (show k_ref σ (nI 19) w1 (bI true) (bI true) 0 = 0 from h0) rfl ⟨hO, hW, hWD⟩ hS (Nat.le_of_ble_eq_true rfl) (Nat.le_of_ble_eq_true rfl) dX9_back_26
def k_at (σ : zS) (x : Int32) : Nat := if k_has σ 506 x = true then 0 else 1
theorem k_at_0 {σ : zS} {x : Int32} (h : k_at σ x = 0) : k_has σ 506 x = true := by
  by_cases g : k_has σ 506 x = true
  · exact g
  · rw [k_at, if_neg g] at h; exact absurd h (by decide)
def k_atF (σ : zS) (x : Int32) : Nat := if k_has σ 508 x = true then 0 else 1
def k_pkr (σ : zS) (x j w : Int32) : Nat := if k_has σ 506 x = true then (if j < 0 ∨ zI σ 109 x.toNatClampNeg ≤ j then 1 else if w = 104 ∨ w = 100 ∨ (48 ≤ w ∧ w ≤ 52) then 0 else 2) else 1
theorem zmX9_canopyAt : zmV yX9_canopyAt RX9 cX9_canopyAt 2 (some (.object "Silkloft$Canopy")) 1 := ⟨m_839, s_34, m_1, m_840, rfl, by decide, by decide, by decide +kernel⟩
set_option maxRecDepth 100000 in
set_option maxHeartbeats 4000000 in
theorem ctX9_canopyAt (l : Launch) (hl0 : l.stackTraces = false) (D : va_G) (cy : Nat → ClassId) (rf : Nat → Nat) (sb ag : Nat) (ad : Nat → Nat → Nat) (σ : zS) (adD : Nat → Nat → Nat) (δ : zS) (x : Int32) (hV : zV σ) : vx_Met l yX9_canopyAt (zw yX9_canopyAt cX9_canopyAt 2 (some (.object "Silkloft$Canopy"))) (zrx 6 1 6) (va_Pc [.ref sb, .int x] (zBE D cy rf (zSA D cy sb ag ad σ adD δ))) (zxQ (k_at σ x) (some (.ref (ad 11 x.toNatClampNeg))) (zSA D cy sb ag ad σ adD δ) (fun _ => False)) (zxC (k_at σ x)) 1 6 (fun _ => False) := by
  refine zmetX (by decide) rfl (Nat.le_of_ble_eq_true rfl) rfl (fun p e s m below meth c ls X hml hr hlocks hex hv hl => ?_)
  obtain ⟨hK, hE, hO, hW, hWD⟩ := hv
  obtain ⟨hx, hb, -, -⟩ := id X
  have hl : lv_has ls 2 [(0, .ref sb), (1, .int x)] := hl
  refine lv_aload_n hx hb dX9_canopyAt_0 rfl (lv_at hl 0 rfl) ?_
  refine zg7_0 X hK hO m_311 dX9_canopyAt_1 ?_
  refine lv_iload_n hx hb dX9_canopyAt_4 rfl (lv_at hl 1 rfl) ?_
  refine zcallRV (As := [.int x]) (rest := []) X hml hK hW (ctX5_hasCanopy l D cy ad σ x) zmX5_hasCanopy (by decide) m_841 (zrecv hK (hW 0 0 rfl (by decide)) rfl) ⟨Nat.le_of_ble_eq_true rfl, Nat.le_of_ble_eq_true rfl⟩ ⟨Nat.le_of_ble_eq_true rfl, Nat.le_of_ble_eq_true rfl⟩ rfl hl.1 rfl (Nat.le_of_ble_eq_true rfl) dX9_canopyAt_5 ?_
  refine zb_ne (tgt := 21) hx hb dX9_canopyAt_8 (by decide) (fun b1 => ?_) (fun b1 => ?_)
  · refine lv_aload_n hx hb dX9_canopyAt_21 rfl (lv_at hl 0 rfl) ?_
    refine zg7_0 X hK hO m_311 dX9_canopyAt_22 ?_
    refine zg5_1 X hK hW m_248 dX9_canopyAt_25 ?_
    refine lv_iload_n hx hb dX9_canopyAt_28 rfl (lv_at hl 1 rfl) ?_
    refine zr2 X hK hW (zhas_in hV.2.1 (by decide) b1) dX9_canopyAt_29 ?_
    exact zx_a hx hb hr hlocks (show k_at σ x = 0 from (by simp [k_at, b1])) rfl ⟨hO, hW, hWD⟩ va_S.rf (Nat.le_of_ble_eq_true rfl) (Nat.le_of_ble_eq_true rfl) dX9_canopyAt_30
  · have hrr : k_at σ x = 1 := (by simp [k_at, b1])
    exact zthS (cls := zxc 1) (text := "no such canopy") X hl0 hE va_S.rf (fun _ _ => rfl) zfit_1 m_662 m_15 zat_1 (by simp [zstr]) hml hl.1 dX9_canopyAt_11 dX9_canopyAt_14 dX9_canopyAt_15 dX9_canopyAt_17 dX9_canopyAt_20 hex hlocks ⟨Nat.le_of_ble_eq_true rfl, Nat.le_of_ble_eq_true rfl⟩ (Nat.le_of_ble_eq_true rfl) ⟨Nat.le_of_ble_eq_true rfl, Nat.le_of_ble_eq_true rfl⟩ (Nat.le_of_ble_eq_true rfl) (Nat.le_of_ble_eq_true rfl) (by rw [hrr]; decide) (by rw [hrr])
theorem zmX9_isGrounded : zmV yX9_isGrounded RX9 cX9_isGrounded 2 (some .boolean) 1 := ⟨m_886, m_887, m_1, m_888, rfl, by decide, by decide, by decide +kernel⟩
set_option maxRecDepth 100000 in
set_option maxHeartbeats 4000000 in
theorem ctX9_isGrounded (l : Launch) (hl0 : l.stackTraces = false) (D : va_G) (cy : Nat → ClassId) (rf : Nat → Nat) (sb ag : Nat) (ad : Nat → Nat → Nat) (σ : zS) (adD : Nat → Nat → Nat) (δ : zS) (x : Int32) (hV : zV σ) : vx_Met l yX9_isGrounded (zw yX9_isGrounded cX9_isGrounded 2 (some .boolean)) (zrx 7 1 6) (va_Pc [.ref sb, .int x] (zBE D cy rf (zSA D cy sb ag ad σ adD δ))) (zxQ (k_at σ x) (some (.int (bI (k_down σ x.toNatClampNeg)))) (zSA D cy sb ag ad σ adD δ) (fun _ => False)) (zxC (k_at σ x)) 1 6 (fun _ => False) := by
  refine zmetX (by decide) rfl (Nat.le_of_ble_eq_true rfl) rfl (fun p e s m below meth c ls X hml hr hlocks hex hv hl => ?_)
  obtain ⟨hK, hE, hO, hW, hWD⟩ := hv
  obtain ⟨hx, hb, -, -⟩ := id X
  have hl : lv_has ls 2 [(0, .ref sb), (1, .int x)] := hl
  refine lv_aload_n hx hb dX9_isGrounded_0 rfl (lv_at hl 0 rfl) ?_
  refine lv_iload_n hx hb dX9_isGrounded_1 rfl (lv_at hl 1 rfl) ?_
  refine zcallXV (As := [.int x]) (rest := []) X hml hK hE ⟨hO, hW, hWD⟩ (ctX9_canopyAt l hl0 D cy rf sb ag ad σ adD δ x hV) zmX9_canopyAt (by decide) m_837 (zrecv hK hO rfl) ⟨(Nat.le_of_ble_eq_true rfl), (Nat.le_of_ble_eq_true rfl)⟩ ⟨(Nat.le_of_ble_eq_true rfl), (Nat.le_of_ble_eq_true rfl)⟩ rfl hl.1 rfl (Nat.le_of_ble_eq_true rfl) dX9_isGrounded_2 va_S.rf (fun _ h => h) (fun _ => rfl) hex hlocks (fun _ _ => rfl) (Nat.le_of_ble_eq_true rfl) (Nat.le_of_ble_eq_true rfl) (fun h0 H locs hG9 hsz hfr hS => ?_)
  obtain ⟨hO, hW, hWD⟩ := hG9
  have hin := zhas_in hV.2.1 (by decide) (k_at_0 h0)
  refine lv_pop hx hb dX9_isGrounded_5 rfl ?_
  refine lv_aload_n hx hb dX9_isGrounded_6 rfl (lv_at hl 0 rfl) ?_
  refine zg7_0 X hK hO m_311 dX9_isGrounded_7 ?_
  refine lv_iload_n hx hb dX9_isGrounded_10 rfl (lv_at hl 1 rfl) ?_
  refine zcallRV (As := [.int x]) (rest := []) X hml hK hW (ctX5_isOnGround_x l D cy ad σ x hin hV) zmX5_isOnGround (by decide) m_889 (zrecv hK (hW 0 0 rfl (by decide)) rfl) ⟨Nat.le_of_ble_eq_true rfl, Nat.le_of_ble_eq_true rfl⟩ ⟨Nat.le_of_ble_eq_true rfl, Nat.le_of_ble_eq_true rfl⟩ rfl hl.1 rfl (Nat.le_of_ble_eq_true rfl) dX9_isGrounded_11 ?_
  exact zx_z hx hb hr hlocks (show k_at σ x = 0 from h0) rfl ⟨hO, hW, hWD⟩ hS (Nat.le_of_ble_eq_true rfl) (Nat.le_of_ble_eq_true rfl) dX9_isGrounded_14
theorem zmX9_sharers : zmV yX9_sharers RX9 cX9_sharers 2 (some .int) 1 := ⟨m_1109, m_1110, m_1, m_1111, rfl, by decide, by decide, by decide +kernel⟩
set_option maxRecDepth 100000 in
set_option maxHeartbeats 4000000 in
theorem ctX9_sharers (l : Launch) (hl0 : l.stackTraces = false) (D : va_G) (cy : Nat → ClassId) (rf : Nat → Nat) (sb ag : Nat) (ad : Nat → Nat → Nat) (σ : zS) (adD : Nat → Nat → Nat) (δ : zS) (x : Int32) (hV : zV σ) : vx_Met l yX9_sharers (zw yX9_sharers cX9_sharers 2 (some .int)) (zrx 7 1 6) (va_Pc [.ref sb, .int x] (zBE D cy rf (zSA D cy sb ag ad σ adD δ))) (zxQ (k_at σ x) (some (.int (nI (k_shar σ x.toNatClampNeg)))) (zSA D cy sb ag ad σ adD δ) (fun _ => False)) (zxC (k_at σ x)) 1 6 (fun _ => False) := by
  refine zmetX (by decide) rfl (Nat.le_of_ble_eq_true rfl) rfl (fun p e s m below meth c ls X hml hr hlocks hex hv hl => ?_)
  obtain ⟨hK, hE, hO, hW, hWD⟩ := hv
  obtain ⟨hx, hb, -, -⟩ := id X
  have hl : lv_has ls 2 [(0, .ref sb), (1, .int x)] := hl
  refine lv_aload_n hx hb dX9_sharers_0 rfl (lv_at hl 0 rfl) ?_
  refine lv_iload_n hx hb dX9_sharers_1 rfl (lv_at hl 1 rfl) ?_
  refine zcallXV (As := [.int x]) (rest := []) X hml hK hE ⟨hO, hW, hWD⟩ (ctX9_canopyAt l hl0 D cy rf sb ag ad σ adD δ x hV) zmX9_canopyAt (by decide) m_837 (zrecv hK hO rfl) ⟨(Nat.le_of_ble_eq_true rfl), (Nat.le_of_ble_eq_true rfl)⟩ ⟨(Nat.le_of_ble_eq_true rfl), (Nat.le_of_ble_eq_true rfl)⟩ rfl hl.1 rfl (Nat.le_of_ble_eq_true rfl) dX9_sharers_2 va_S.rf (fun _ h => h) (fun _ => rfl) hex hlocks (fun _ _ => rfl) (Nat.le_of_ble_eq_true rfl) (Nat.le_of_ble_eq_true rfl) (fun h0 H locs hG9 hsz hfr hS => ?_)
  obtain ⟨hO, hW, hWD⟩ := hG9
  have hin := zhas_in hV.2.1 (by decide) (k_at_0 h0)
  refine lv_pop hx hb dX9_sharers_5 rfl ?_
  refine lv_aload_n hx hb dX9_sharers_6 rfl (lv_at hl 0 rfl) ?_
  refine zg7_0 X hK hO m_311 dX9_sharers_7 ?_
  refine lv_iload_n hx hb dX9_sharers_10 rfl (lv_at hl 1 rfl) ?_
  refine zcallRV (As := [.int x]) (rest := []) X hml hK hW (ctX5_countSharers_x l D cy ad σ x hin hV) zmX5_countSharers (by decide) m_1112 (zrecv hK (hW 0 0 rfl (by decide)) rfl) ⟨Nat.le_of_ble_eq_true rfl, Nat.le_of_ble_eq_true rfl⟩ ⟨Nat.le_of_ble_eq_true rfl, Nat.le_of_ble_eq_true rfl⟩ rfl hl.1 rfl (Nat.le_of_ble_eq_true rfl) dX9_sharers_11 ?_
  exact zx_i hx hb hr hlocks (show k_at σ x = 0 from h0) rfl ⟨hO, hW, hWD⟩ hS (Nat.le_of_ble_eq_true rfl) (Nat.le_of_ble_eq_true rfl) dX9_sharers_14
theorem zmX9_isOut : zmV yX9_isOut RX9 cX9_isOut 2 (some .boolean) 1 := ⟨m_894, m_895, m_1, m_896, rfl, by decide, by decide, by decide +kernel⟩
set_option maxRecDepth 100000 in
set_option maxHeartbeats 4000000 in
theorem ctX9_isOut (l : Launch) (hl0 : l.stackTraces = false) (D : va_G) (cy : Nat → ClassId) (rf : Nat → Nat) (sb ag : Nat) (ad : Nat → Nat → Nat) (σ : zS) (adD : Nat → Nat → Nat) (δ : zS) (x : Int32) (hV : zV σ) : vx_Met l yX9_isOut (zw yX9_isOut cX9_isOut 2 (some .boolean)) (zrx 7 1 6) (va_Pc [.ref sb, .int x] (zBE D cy rf (zSA D cy sb ag ad σ adD δ))) (zxQ (k_at σ x) (some (.int (bI (k_old σ x.toNatClampNeg)))) (zSA D cy sb ag ad σ adD δ) (fun _ => False)) (zxC (k_at σ x)) 1 6 (fun _ => False) := by
  refine zmetX (by decide) rfl (Nat.le_of_ble_eq_true rfl) rfl (fun p e s m below meth c ls X hml hr hlocks hex hv hl => ?_)
  obtain ⟨hK, hE, hO, hW, hWD⟩ := hv
  obtain ⟨hx, hb, -, -⟩ := id X
  have hl : lv_has ls 2 [(0, .ref sb), (1, .int x)] := hl
  refine lv_aload_n hx hb dX9_isOut_0 rfl (lv_at hl 0 rfl) ?_
  refine zg7_0 X hK hO m_311 dX9_isOut_1 ?_
  refine lv_aload_n hx hb dX9_isOut_4 rfl (lv_at hl 0 rfl) ?_
  refine lv_iload_n hx hb dX9_isOut_5 rfl (lv_at hl 1 rfl) ?_
  refine zcallXV (As := [.int x]) (rest := [.ref (ad 0 0)]) X hml hK hE ⟨hO, hW, hWD⟩ (ctX9_canopyAt l hl0 D cy rf sb ag ad σ adD δ x hV) zmX9_canopyAt (by decide) m_837 (zrecv hK hO rfl) ⟨(Nat.le_of_ble_eq_true rfl), (Nat.le_of_ble_eq_true rfl)⟩ ⟨(Nat.le_of_ble_eq_true rfl), (Nat.le_of_ble_eq_true rfl)⟩ rfl hl.1 rfl (Nat.le_of_ble_eq_true rfl) dX9_isOut_6 va_S.rf (fun _ h => h) (fun _ => rfl) hex hlocks (fun _ _ => rfl) (Nat.le_of_ble_eq_true rfl) (Nat.le_of_ble_eq_true rfl) (fun h0 H locs hG9 hsz hfr hS => ?_)
  obtain ⟨hO, hW, hWD⟩ := hG9
  have hin := zhas_in hV.2.1 (by decide) (k_at_0 h0)
  refine zcallRV (As := [.ref (ad 11 x.toNatClampNeg)]) (rest := []) X hml hK hW (ctX5_isTooOld l D cy ad σ x.toNatClampNeg (zvin hin) hV.2.2.2.2.1) zmX5_isTooOld (by decide) m_897 (zrecv hK (hW 0 0 rfl (by decide)) rfl) ⟨Nat.le_of_ble_eq_true rfl, Nat.le_of_ble_eq_true rfl⟩ ⟨Nat.le_of_ble_eq_true rfl, Nat.le_of_ble_eq_true rfl⟩ rfl hl.1 rfl (Nat.le_of_ble_eq_true rfl) dX9_isOut_9 ?_
  exact zx_z hx hb hr hlocks (show k_at σ x = 0 from h0) rfl ⟨hO, hW, hWD⟩ hS (Nat.le_of_ble_eq_true rfl) (Nat.le_of_ble_eq_true rfl) dX9_isOut_12
theorem zmX9_jumps : zmV yX9_jumps RX9 cX9_jumps 2 (some .int) 1 := ⟨m_1102, m_1103, m_1, m_1104, rfl, by decide, by decide, by decide +kernel⟩
set_option maxRecDepth 100000 in
set_option maxHeartbeats 4000000 in
theorem ctX9_jumps (l : Launch) (hl0 : l.stackTraces = false) (D : va_G) (cy : Nat → ClassId) (rf : Nat → Nat) (sb ag : Nat) (ad : Nat → Nat → Nat) (σ : zS) (adD : Nat → Nat → Nat) (δ : zS) (x : Int32) (hV : zV σ) : vx_Met l yX9_jumps (zw yX9_jumps cX9_jumps 2 (some .int)) (zrx 7 1 6) (va_Pc [.ref sb, .int x] (zBE D cy rf (zSA D cy sb ag ad σ adD δ))) (zxQ (k_at σ x) (some (.int (zI σ 113 x.toNatClampNeg))) (zSA D cy sb ag ad σ adD δ) (fun _ => False)) (zxC (k_at σ x)) 1 6 (fun _ => False) := by
  refine zmetX (by decide) rfl (Nat.le_of_ble_eq_true rfl) rfl (fun p e s m below meth c ls X hml hr hlocks hex hv hl => ?_)
  obtain ⟨hK, hE, hO, hW, hWD⟩ := hv
  obtain ⟨hx, hb, -, -⟩ := id X
  have hl : lv_has ls 2 [(0, .ref sb), (1, .int x)] := hl
  refine lv_aload_n hx hb dX9_jumps_0 rfl (lv_at hl 0 rfl) ?_
  refine lv_iload_n hx hb dX9_jumps_1 rfl (lv_at hl 1 rfl) ?_
  refine zcallXV (As := [.int x]) (rest := []) X hml hK hE ⟨hO, hW, hWD⟩ (ctX9_canopyAt l hl0 D cy rf sb ag ad σ adD δ x hV) zmX9_canopyAt (by decide) m_837 (zrecv hK hO rfl) ⟨(Nat.le_of_ble_eq_true rfl), (Nat.le_of_ble_eq_true rfl)⟩ ⟨(Nat.le_of_ble_eq_true rfl), (Nat.le_of_ble_eq_true rfl)⟩ rfl hl.1 rfl (Nat.le_of_ble_eq_true rfl) dX9_jumps_2 va_S.rf (fun _ h => h) (fun _ => rfl) hex hlocks (fun _ _ => rfl) (Nat.le_of_ble_eq_true rfl) (Nat.le_of_ble_eq_true rfl) (fun h0 H locs hG9 hsz hfr hS => ?_)
  obtain ⟨hO, hW, hWD⟩ := hG9
  have hin := zhas_in hV.2.1 (by decide) (k_at_0 h0)
  refine zg1_13 X hK hW (zvin hin) m_127 dX9_jumps_5 ?_
  exact zx_i hx hb hr hlocks (show k_at σ x = 0 from h0) rfl ⟨hO, hW, hWD⟩ hS (Nat.le_of_ble_eq_true rfl) (Nat.le_of_ble_eq_true rfl) dX9_jumps_8
theorem zmX9_packings : zmV yX9_packings RX9 cX9_packings 2 (some .int) 1 := ⟨m_834, m_835, m_1, m_836, rfl, by decide, by decide, by decide +kernel⟩
set_option maxRecDepth 100000 in
set_option maxHeartbeats 4000000 in
theorem ctX9_packings (l : Launch) (hl0 : l.stackTraces = false) (D : va_G) (cy : Nat → ClassId) (rf : Nat → Nat) (sb ag : Nat) (ad : Nat → Nat → Nat) (σ : zS) (adD : Nat → Nat → Nat) (δ : zS) (x : Int32) (hV : zV σ) : vx_Met l yX9_packings (zw yX9_packings cX9_packings 2 (some .int)) (zrx 7 1 6) (va_Pc [.ref sb, .int x] (zBE D cy rf (zSA D cy sb ag ad σ adD δ))) (zxQ (k_at σ x) (some (.int (zI σ 109 x.toNatClampNeg))) (zSA D cy sb ag ad σ adD δ) (fun _ => False)) (zxC (k_at σ x)) 1 6 (fun _ => False) := by
  refine zmetX (by decide) rfl (Nat.le_of_ble_eq_true rfl) rfl (fun p e s m below meth c ls X hml hr hlocks hex hv hl => ?_)
  obtain ⟨hK, hE, hO, hW, hWD⟩ := hv
  obtain ⟨hx, hb, -, -⟩ := id X
  have hl : lv_has ls 2 [(0, .ref sb), (1, .int x)] := hl
  refine lv_aload_n hx hb dX9_packings_0 rfl (lv_at hl 0 rfl) ?_
  refine lv_iload_n hx hb dX9_packings_1 rfl (lv_at hl 1 rfl) ?_
  refine zcallXV (As := [.int x]) (rest := []) X hml hK hE ⟨hO, hW, hWD⟩ (ctX9_canopyAt l hl0 D cy rf sb ag ad σ adD δ x hV) zmX9_canopyAt (by decide) m_837 (zrecv hK hO rfl) ⟨(Nat.le_of_ble_eq_true rfl), (Nat.le_of_ble_eq_true rfl)⟩ ⟨(Nat.le_of_ble_eq_true rfl), (Nat.le_of_ble_eq_true rfl)⟩ rfl hl.1 rfl (Nat.le_of_ble_eq_true rfl) dX9_packings_2 va_S.rf (fun _ h => h) (fun _ => rfl) hex hlocks (fun _ _ => rfl) (Nat.le_of_ble_eq_true rfl) (Nat.le_of_ble_eq_true rfl) (fun h0 H locs hG9 hsz hfr hS => ?_)
  obtain ⟨hO, hW, hWD⟩ := hG9
  have hin := zhas_in hV.2.1 (by decide) (k_at_0 h0)
  refine zg1_9 X hK hW (zvin hin) m_119 dX9_packings_5 ?_
  exact zx_i hx hb hr hlocks (show k_at σ x = 0 from h0) rfl ⟨hO, hW, hWD⟩ hS (Nat.le_of_ble_eq_true rfl) (Nat.le_of_ble_eq_true rfl) dX9_packings_8
theorem zmX9_stateOf : zmV yX9_stateOf RX9 cX9_stateOf 2 (some .char) 1 := ⟨m_850, m_851, m_1, m_852, rfl, by decide, by decide, by decide +kernel⟩
set_option maxRecDepth 100000 in
set_option maxHeartbeats 4000000 in
theorem ctX9_stateOf (l : Launch) (hl0 : l.stackTraces = false) (D : va_G) (cy : Nat → ClassId) (rf : Nat → Nat) (sb ag : Nat) (ad : Nat → Nat → Nat) (σ : zS) (adD : Nat → Nat → Nat) (δ : zS) (x : Int32) (hV : zV σ) (hch : k_has σ 506 x = true → narrow .char (.int (zI σ 105 x.toNatClampNeg)) = .int (zI σ 105 x.toNatClampNeg)) : vx_Met l yX9_stateOf (zw yX9_stateOf cX9_stateOf 2 (some .char)) (zrx 7 1 6) (va_Pc [.ref sb, .int x] (zBE D cy rf (zSA D cy sb ag ad σ adD δ))) (zxQ (k_at σ x) (some (.int (zI σ 105 x.toNatClampNeg))) (zSA D cy sb ag ad σ adD δ) (fun _ => False)) (zxC (k_at σ x)) 1 6 (fun _ => False) := by
  refine zmetX (by decide) rfl (Nat.le_of_ble_eq_true rfl) rfl (fun p e s m below meth c ls X hml hr hlocks hex hv hl => ?_)
  obtain ⟨hK, hE, hO, hW, hWD⟩ := hv
  obtain ⟨hx, hb, -, -⟩ := id X
  have hl : lv_has ls 2 [(0, .ref sb), (1, .int x)] := hl
  refine lv_aload_n hx hb dX9_stateOf_0 rfl (lv_at hl 0 rfl) ?_
  refine lv_iload_n hx hb dX9_stateOf_1 rfl (lv_at hl 1 rfl) ?_
  refine zcallXV (As := [.int x]) (rest := []) X hml hK hE ⟨hO, hW, hWD⟩ (ctX9_canopyAt l hl0 D cy rf sb ag ad σ adD δ x hV) zmX9_canopyAt (by decide) m_837 (zrecv hK hO rfl) ⟨(Nat.le_of_ble_eq_true rfl), (Nat.le_of_ble_eq_true rfl)⟩ ⟨(Nat.le_of_ble_eq_true rfl), (Nat.le_of_ble_eq_true rfl)⟩ rfl hl.1 rfl (Nat.le_of_ble_eq_true rfl) dX9_stateOf_2 va_S.rf (fun _ h => h) (fun _ => rfl) hex hlocks (fun _ _ => rfl) (Nat.le_of_ble_eq_true rfl) (Nat.le_of_ble_eq_true rfl) (fun h0 H locs hG9 hsz hfr hS => ?_)
  obtain ⟨hO, hW, hWD⟩ := hG9
  have hin := zhas_in hV.2.1 (by decide) (k_at_0 h0)
  refine zg1_5 X hK hW (zvin hin) m_108 dX9_stateOf_5 ?_
  exact zx_c hx hb hr hlocks (show k_at σ x = 0 from h0) rfl (hch (k_at_0 h0)) ⟨hO, hW, hWD⟩ hS (Nat.le_of_ble_eq_true rfl) (Nat.le_of_ble_eq_true rfl) dX9_stateOf_8
theorem zhas_n {σ : zS} {f N : Nat} {x : Int32} (hb : zbd σ f N) (hN : N < 2 ^ 31) (h : k_has σ f x = true) : x.toNatClampNeg < zn σ f := by
  obtain ⟨j, hj, rfl⟩ := zhas_lt hb hN h
  have := hb.2
  rw [nI_clamp (by omega)]; exact hj
theorem zmX9_grounds : zmV yX9_grounds RX9 cX9_grounds 2 (some .int) 1 := ⟨m_937, m_938, m_1, m_939, rfl, by decide, by decide, by decide +kernel⟩
set_option maxRecDepth 100000 in
set_option maxHeartbeats 4000000 in
theorem ctX9_grounds (l : Launch) (hl0 : l.stackTraces = false) (D : va_G) (cy : Nat → ClassId) (rf : Nat → Nat) (sb ag : Nat) (ad : Nat → Nat → Nat) (σ : zS) (adD : Nat → Nat → Nat) (δ : zS) (x : Int32) (hV : zV σ) : vx_Met l yX9_grounds (zw yX9_grounds cX9_grounds 2 (some .int)) (zrx 6 1 6) (va_Pc [.ref sb, .int x] (zBE D cy rf (zSA D cy sb ag ad σ adD δ))) (zxQ (k_atF σ x) (some (.int (nI (k_cntG σ x.toNatClampNeg)))) (zSA D cy sb ag ad σ adD δ) (fun _ => False)) (zxC (k_atF σ x)) 1 6 (fun _ => False) := by
  refine zmetX (by decide) rfl (Nat.le_of_ble_eq_true rfl) rfl (fun p e s m below meth c ls X hml hr hlocks hex hv hl => ?_)
  obtain ⟨hK, hE, hO, hW, hWD⟩ := hv
  obtain ⟨hx, hb, -, -⟩ := id X
  have hl : lv_has ls 2 [(0, .ref sb), (1, .int x)] := hl
  refine lv_aload_n hx hb dX9_grounds_0 rfl (lv_at hl 0 rfl) ?_
  refine zg7_0 X hK hO m_311 dX9_grounds_1 ?_
  refine lv_iload_n hx hb dX9_grounds_4 rfl (lv_at hl 1 rfl) ?_
  refine zcallRV (As := [.int x]) (rest := []) X hml hK hW (ctX5_hasFinding l D cy ad σ x) zmX5_hasFinding (by decide) m_940 (zrecv hK (hW 0 0 rfl (by decide)) rfl) ⟨Nat.le_of_ble_eq_true rfl, Nat.le_of_ble_eq_true rfl⟩ ⟨Nat.le_of_ble_eq_true rfl, Nat.le_of_ble_eq_true rfl⟩ rfl hl.1 rfl (Nat.le_of_ble_eq_true rfl) dX9_grounds_5 ?_
  refine zb_ne (tgt := 21) hx hb dX9_grounds_8 (by decide) (fun b1 => ?_) (fun b1 => ?_)
  · refine lv_aload_n hx hb dX9_grounds_21 rfl (lv_at hl 0 rfl) ?_
    refine zg7_0 X hK hO m_311 dX9_grounds_22 ?_
    refine lv_iload_n hx hb dX9_grounds_25 rfl (lv_at hl 1 rfl) ?_
    refine zcallRV (As := [.int x]) (rest := []) X hml hK hW (ctX5_countGroundedBy_x l D cy ad σ x (zhas_in hV.2.2.2.1 (by decide) b1) hV (zhas_n hV.2.2.2.1 (by decide) b1)) zmX5_countGroundedBy (by decide) m_942 (zrecv hK (hW 0 0 rfl (by decide)) rfl) ⟨Nat.le_of_ble_eq_true rfl, Nat.le_of_ble_eq_true rfl⟩ ⟨Nat.le_of_ble_eq_true rfl, Nat.le_of_ble_eq_true rfl⟩ rfl hl.1 rfl (Nat.le_of_ble_eq_true rfl) dX9_grounds_26 ?_
    exact zx_i hx hb hr hlocks (show k_atF σ x = 0 from (by simp [k_atF, b1])) rfl ⟨hO, hW, hWD⟩ va_S.rf (Nat.le_of_ble_eq_true rfl) (Nat.le_of_ble_eq_true rfl) dX9_grounds_29
  · have hrr : k_atF σ x = 1 := (by simp [k_atF, b1])
    exact zthS (cls := zxc 1) (text := "no such finding") X hl0 hE va_S.rf (fun _ _ => rfl) zfit_1 m_662 m_15 zat_1 (by simp [zstr]) hml hl.1 dX9_grounds_11 dX9_grounds_14 dX9_grounds_15 dX9_grounds_17 dX9_grounds_20 hex hlocks ⟨Nat.le_of_ble_eq_true rfl, Nat.le_of_ble_eq_true rfl⟩ (Nat.le_of_ble_eq_true rfl) ⟨Nat.le_of_ble_eq_true rfl, Nat.le_of_ble_eq_true rfl⟩ (Nat.le_of_ble_eq_true rfl) (Nat.le_of_ble_eq_true rfl) (by rw [hrr]; decide) (by rw [hrr])
theorem zmX9_held : zmV yX9_held RX9 cX9_held 1 (some .long) 0 := ⟨m_1192, m_1193, m_1, m_1194, rfl, by decide, by decide, by decide +kernel⟩
set_option maxRecDepth 100000 in
set_option maxHeartbeats 4000000 in
theorem ctX9_held (l : Launch) (hl0 : l.stackTraces = false) (D : va_G) (cy : Nat → ClassId) (rf : Nat → Nat) (sb ag : Nat) (ad : Nat → Nat → Nat) (σ : zS) (adD : Nat → Nat → Nat) (δ : zS) (hV : zV σ) : vx_Met l yX9_held (zw yX9_held cX9_held 1 (some .long)) (zrx 6 1 6) (va_Pc [.ref sb] (zBE D cy rf (zSA D cy sb ag ad σ adD δ))) (zxQ 0 (some (.long (k_held σ))) (zSA D cy sb ag ad σ adD δ) (fun _ => False)) (zxC 0) 1 6 (fun _ => False) := by
  refine zmetX (by decide) rfl (Nat.le_of_ble_eq_true rfl) rfl (fun p e s m below meth c ls X hml hr hlocks hex hv hl => ?_)
  obtain ⟨hK, hE, hO, hW, hWD⟩ := hv
  obtain ⟨hx, hb, -, -⟩ := id X
  have hl : lv_has ls 1 [(0, .ref sb)] := hl
  refine lv_aload_n hx hb dX9_held_0 rfl (lv_at hl 0 rfl) ?_
  refine zg7_0 X hK hO m_311 dX9_held_1 ?_
  refine zcallRV (As := []) (rest := []) X hml hK hW (ctX5_sumOfDeposits l D cy ad σ hV) zmX5_sumOfDeposits (by decide) m_1195 (zrecv hK (hW 0 0 rfl (by decide)) rfl) ⟨Nat.le_of_ble_eq_true rfl, Nat.le_of_ble_eq_true rfl⟩ ⟨Nat.le_of_ble_eq_true rfl, Nat.le_of_ble_eq_true rfl⟩ rfl hl.1 rfl (Nat.le_of_ble_eq_true rfl) dX9_held_4 ?_
  exact zx_l hx hb hr hlocks (show 0 = 0 from rfl) rfl ⟨hO, hW, hWD⟩ va_S.rf (Nat.le_of_ble_eq_true rfl) (Nat.le_of_ble_eq_true rfl) dX9_held_7
theorem zmX9_kept : zmV yX9_kept RX9 cX9_kept 1 (some .long) 0 := ⟨m_322, m_323, m_1, m_324, rfl, by decide, by decide, by decide +kernel⟩
set_option maxRecDepth 100000 in
set_option maxHeartbeats 4000000 in
theorem ctX9_kept (l : Launch) (hl0 : l.stackTraces = false) (D : va_G) (cy : Nat → ClassId) (rf : Nat → Nat) (sb ag : Nat) (ad : Nat → Nat → Nat) (σ : zS) (adD : Nat → Nat → Nat) (δ : zS) : vx_Met l yX9_kept (zw yX9_kept cX9_kept 1 (some .long)) (zrx 6 1 6) (va_Pc [.ref sb] (zBE D cy rf (zSA D cy sb ag ad σ adD δ))) (zxQ 0 (some (.long (zL σ 511 0))) (zSA D cy sb ag ad σ adD δ) (fun _ => False)) (zxC 0) 1 6 (fun _ => False) := by
  refine zmetX (by decide) rfl (Nat.le_of_ble_eq_true rfl) rfl (fun p e s m below meth c ls X hml hr hlocks hex hv hl => ?_)
  obtain ⟨hK, hE, hO, hW, hWD⟩ := hv
  obtain ⟨hx, hb, -, -⟩ := id X
  have hl : lv_has ls 1 [(0, .ref sb)] := hl
  refine lv_aload_n hx hb dX9_kept_0 rfl (lv_at hl 0 rfl) ?_
  refine zg7_0 X hK hO m_311 dX9_kept_1 ?_
  refine zg5_11 X hK hW m_268 dX9_kept_4 ?_
  exact zx_l hx hb hr hlocks (show 0 = 0 from rfl) rfl ⟨hO, hW, hWD⟩ va_S.rf (Nat.le_of_ble_eq_true rfl) (Nat.le_of_ble_eq_true rfl) dX9_kept_7
