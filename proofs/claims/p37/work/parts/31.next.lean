/-! the class's next -/
def k_nx (σ : zS) : Int32 := (k_first σ (zn σ 506)).1
def k_nxr (σ : zS) : Nat := if k_nx σ < 0 then 5 else 0
theorem zmX9_next : zmV yX9_next RX9 cX9_next 2 (some .int) 0 := ⟨m_1168, m_1169, m_1, m_1170, rfl, by decide, by decide, by decide +kernel⟩
set_option maxRecDepth 100000 in
set_option maxHeartbeats 4000000 in
theorem ctX9_next (l : Launch) (hl0 : l.stackTraces = false) (D : va_G) (cy : Nat → ClassId) (rf : Nat → Nat) (sb ag : Nat) (ad : Nat → Nat → Nat) (σ : zS) (adD : Nat → Nat → Nat) (δ : zS) (hV : zV σ) : vx_Met l yX9_next (zw yX9_next cX9_next 2 (some .int)) (zrx 6 1 6) (va_Pc [.ref sb] (zBE D cy rf (zSA D cy sb ag ad σ adD δ))) (zxQ (k_nxr σ) (some (.int (k_nx σ))) (zSA D cy sb ag ad σ adD δ) (fun _ => False)) (zxC (k_nxr σ)) 1 6 (fun _ => False) := by
  refine zmetX (by decide) rfl (Nat.le_of_ble_eq_true rfl) rfl (fun p e s m below meth c ls X hml hr hlocks hex hv hl => ?_)
  obtain ⟨hK, hE, hO, hW, hWD⟩ := hv
  obtain ⟨hx, hb, -, -⟩ := id X
  have hl : lv_has ls 2 [(0, .ref sb)] := hl
  refine lv_aload_n hx hb dX9_next_0 rfl (lv_at hl 0 rfl) ?_
  refine zg7_0 X hK hO m_311 dX9_next_1 ?_
  refine zcallRV (As := []) (rest := []) X hml hK hW (ctX5_firstReserveToRepack l D cy ad σ hV) zmX5_firstReserveToRepack (by decide) m_1171 (zrecv hK (hW 0 0 rfl (by decide)) rfl) ⟨Nat.le_of_ble_eq_true rfl, Nat.le_of_ble_eq_true rfl⟩ ⟨Nat.le_of_ble_eq_true rfl, Nat.le_of_ble_eq_true rfl⟩ rfl hl.1 rfl (Nat.le_of_ble_eq_true rfl) dX9_next_4 ?_
  refine lv_istore_n (lv' := [(1, .int ((k_first σ (zn σ 506)).1)), (0, .ref sb)]) hx hb dX9_next_7 rfl hl (by decide) rfl (fun ls hl => ?_)
  refine lv_iload_n hx hb dX9_next_8 rfl (lv_at hl 0 rfl) ?_
  refine lv_if_ge (tgt := 22) hx hb dX9_next_9 (by decide) (fun b1 => ?_) (fun b1 => ?_)
  · refine lv_iload_n hx hb dX9_next_22 rfl (lv_at hl 0 rfl) ?_
    exact zx_i hx hb hr hlocks (show k_nxr σ = 0 from (by rw [k_nxr]; simp [k_nx, b1, Int32.not_lt.mpr b1])) rfl ⟨hO, hW, hWD⟩ va_S.rf (Nat.le_of_ble_eq_true rfl) (Nat.le_of_ble_eq_true rfl) dX9_next_23
  · have hrr : k_nxr σ = 5 := (by rw [k_nxr]; simp [k_nx, b1, Int32.not_le.mp b1])
    exact zthN (text := "no packed reserve in date") X hl0 hE va_S.rf (fun _ _ => rfl) m_1175 m_27 (is := 95) (by simp [zstr]) hml hl.1 dX9_next_12 dX9_next_15 dX9_next_16 dX9_next_18 dX9_next_21 hex hlocks ⟨(Nat.le_of_ble_eq_true rfl), (Nat.le_of_ble_eq_true rfl)⟩ (Nat.le_of_ble_eq_true rfl) ⟨(Nat.le_of_ble_eq_true rfl), (Nat.le_of_ble_eq_true rfl)⟩ (Nat.le_of_ble_eq_true rfl) (Nat.le_of_ble_eq_true rfl) hrr
