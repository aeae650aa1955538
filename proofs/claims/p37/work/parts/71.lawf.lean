theorem zr_none (σ : zS) : k_none σ = 0 ∨ k_none σ = 6 := by unfold k_none; split <;> simp
theorem zmL_groundedShare : zmW yL_groundedShare RL cL_groundedShare 2 (some .float) [(0, 4, 5, 125)] 1 := ⟨m_1135, m_0, m_1136, rfl, by decide, by decide, by decide +kernel⟩
set_option maxRecDepth 100000 in
set_option maxHeartbeats 4000000 in
theorem ctL_groundedShare (l : Launch) (hl0 : l.stackTraces = false) (D : va_G) (cy : Nat → ClassId) (rf : Nat → Nat) (sb ag : Nat) (ad : Nat → Nat → Nat) (σ : zS) (adD : Nat → Nat → Nat) (δ : zS) (hV : zV σ) (hno : k_none σ = 0) : Met l yL_groundedShare (zww yL_groundedShare cL_groundedShare 2 (some .float) [(0, 4, 5, 125)]) (zrx 9 1 6) (va_Pc [.ref sb] (zBN D cy rf (zSA D cy sb ag ad σ adD δ))) (zqM (some (.float (k_gs σ))) (zSA D cy sb ag ad σ adD δ) (fun _ => False)) 1 6 (fun _ => False) := by
  refine zmetW (by decide) rfl (Nat.le_of_ble_eq_true rfl) rfl (fun p e s m below meth c ls X hml hr hlocks hex hv hl => ?_)
  obtain ⟨hK, hE, hN, hO, hW, hWD⟩ := hv
  obtain ⟨hx, hb, -, -⟩ := id X
  have hl : lv_has ls 2 [(0, .ref sb)] := hl
  have hS : va_S (fun _ => False) s.heap s.heap [] := va_S.rf
  refine lv_aload_n hx hb dL_groundedShare_0 rfl (lv_at hl 0 rfl) ?_
  refine zcallCV (As := []) (rest := []) X hml hK hE ⟨hO, hW, hWD⟩ (ctX9_groundedShare l hl0 D cy rf sb ag ad σ adD δ hV) zmX9_groundedShare (by decide) m_1151 (zrecv hK hO rfl) ⟨(Nat.le_of_ble_eq_true rfl), (Nat.le_of_ble_eq_true rfl)⟩ ⟨(Nat.le_of_ble_eq_true rfl), (Nat.le_of_ble_eq_true rfl)⟩ rfl hl.1 rfl (Nat.le_of_ble_eq_true rfl) dL_groundedShare_1 hS (fun _ h => h.elim) (fun E ce q9 H locs hr0 hE0 hsz hfr hS hce hcv hcl => ?_) (fun h0 H locs hG9 hsz hfr hS => ?_)
  · exact absurd hno hr0
  · obtain ⟨hO, hW, hWD⟩ := hG9
    exact zo_f hx hb hr hlocks rfl ⟨hO, hW, hWD⟩ hS (Nat.le_of_ble_eq_true rfl) (Nat.le_of_ble_eq_true rfl) dL_groundedShare_4
theorem zmL_meanDrops : zmW yL_meanDrops RL cL_meanDrops 2 (some .double) [(0, 4, 5, 125)] 1 := ⟨m_1200, m_0, m_1201, rfl, by decide, by decide, by decide +kernel⟩
set_option maxRecDepth 100000 in
set_option maxHeartbeats 4000000 in
theorem ctL_meanDrops (l : Launch) (hl0 : l.stackTraces = false) (D : va_G) (cy : Nat → ClassId) (rf : Nat → Nat) (sb ag : Nat) (ad : Nat → Nat → Nat) (σ : zS) (adD : Nat → Nat → Nat) (δ : zS) (hV : zV σ) (hno : k_none σ = 0) : Met l yL_meanDrops (zww yL_meanDrops cL_meanDrops 2 (some .double) [(0, 4, 5, 125)]) (zrx 9 1 6) (va_Pc [.ref sb] (zBN D cy rf (zSA D cy sb ag ad σ adD δ))) (zqM (some (.double (k_md σ))) (zSA D cy sb ag ad σ adD δ) (fun _ => False)) 1 6 (fun _ => False) := by
  refine zmetW (by decide) rfl (Nat.le_of_ble_eq_true rfl) rfl (fun p e s m below meth c ls X hml hr hlocks hex hv hl => ?_)
  obtain ⟨hK, hE, hN, hO, hW, hWD⟩ := hv
  obtain ⟨hx, hb, -, -⟩ := id X
  have hl : lv_has ls 2 [(0, .ref sb)] := hl
  have hS : va_S (fun _ => False) s.heap s.heap [] := va_S.rf
  refine lv_aload_n hx hb dL_meanDrops_0 rfl (lv_at hl 0 rfl) ?_
  refine zcallCV (As := []) (rest := []) X hml hK hE ⟨hO, hW, hWD⟩ (ctX9_meanDrops l hl0 D cy rf sb ag ad σ adD δ hV) zmX9_meanDrops (by decide) m_1202 (zrecv hK hO rfl) ⟨(Nat.le_of_ble_eq_true rfl), (Nat.le_of_ble_eq_true rfl)⟩ ⟨(Nat.le_of_ble_eq_true rfl), (Nat.le_of_ble_eq_true rfl)⟩ rfl hl.1 rfl (Nat.le_of_ble_eq_true rfl) dL_meanDrops_1 hS (fun _ h => h.elim) (fun E ce q9 H locs hr0 hE0 hsz hfr hS hce hcv hcl => ?_) (fun h0 H locs hG9 hsz hfr hS => ?_)
  · exact absurd hno hr0
  · obtain ⟨hO, hW, hWD⟩ := hG9
    exact zo_d hx hb hr hlocks rfl ⟨hO, hW, hWD⟩ hS (Nat.le_of_ble_eq_true rfl) (Nat.le_of_ble_eq_true rfl) dL_meanDrops_4
