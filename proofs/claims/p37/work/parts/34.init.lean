theorem ziX3_init : zmI yX3_init RX3 cX3_init 1 := ⟨m_208, m_7, m_209, rfl, by decide, by decide, by decide +kernel, rfl⟩
set_option maxRecDepth 100000 in
set_option maxHeartbeats 4000000 in
theorem ctX3_init (l : Launch) (D : va_G) (cy : Nat → ClassId) (b n : Nat) (hbn : b < n) : Met l yX3_init (zw yX3_init cX3_init 1 none) (zrx 1 0 0) (va_Pc [.ref b] (zBC D cy (fun H => va_at D zcl (b, .inr (3, [.int 0, .int 0, .int 0, .int 0, .int 0, .int 0, .int 0])) H ∧ H.size = n))) (zqM none (fun H => va_at D zcl (b, .inr (3, [.int 0, .int 0, .int 0, .int 0, .int 0, .int 0, .int 0])) H ∧ H.size = n + 0) (zcA b n)) 0 0 (zcA b n) := by
  refine zmetC (by decide) rfl (Nat.le_of_ble_eq_true rfl) rfl (fun p e s m below meth c ls X hml hr hlocks hinit hv hl => ?_)
  obtain ⟨hK, hP, hat, hsz⟩ := hv
  obtain ⟨hx, hb, -, -⟩ := id X
  have hS : va_S (zcA b n) s.heap s.heap [] := va_S.rf
  refine lv_aload_n hx hb dX3_init_0 rfl (lv_at hl 0 rfl) ?_
  refine zkObj X hml hl.1 m_210 m_34 m_35 dX3_init_1 ⟨(Nat.le_of_ble_eq_true rfl), (Nat.le_of_ble_eq_true rfl)⟩ (Nat.le_of_ble_eq_true rfl) ?_
  exact zkE X hr hlocks ⟨hat, hsz⟩ hS (Nat.le_of_ble_eq_true rfl) (Nat.le_of_ble_eq_true rfl) dX3_init_4
theorem ziX7_init : zmI yX7_init RX7 cX7_init 1 := ⟨m_78, m_4, m_79, rfl, by decide, by decide, by decide +kernel, rfl⟩
set_option maxRecDepth 100000 in
set_option maxHeartbeats 4000000 in
theorem ctX7_init (l : Launch) (D : va_G) (cy : Nat → ClassId) (b n : Nat) (hbn : b < n) : Met l yX7_init (zw yX7_init cX7_init 1 none) (zrx 1 0 0) (va_Pc [.ref b] (zBC D cy (fun H => va_at D zcl (b, .inr (6, [.int 0, .int 0])) H ∧ H.size = n))) (zqM none (fun H => va_at D zcl (b, .inr (6, [.int 0, .int 0])) H ∧ H.size = n + 0) (zcA b n)) 0 0 (zcA b n) := by
  refine zmetC (by decide) rfl (Nat.le_of_ble_eq_true rfl) rfl (fun p e s m below meth c ls X hml hr hlocks hinit hv hl => ?_)
  obtain ⟨hK, hP, hat, hsz⟩ := hv
  obtain ⟨hx, hb, -, -⟩ := id X
  have hS : va_S (zcA b n) s.heap s.heap [] := va_S.rf
  refine lv_aload_n hx hb dX7_init_0 rfl (lv_at hl 0 rfl) ?_
  refine zkObj X hml hl.1 m_80 m_34 m_35 dX7_init_1 ⟨(Nat.le_of_ble_eq_true rfl), (Nat.le_of_ble_eq_true rfl)⟩ (Nat.le_of_ble_eq_true rfl) ?_
  exact zkE X hr hlocks ⟨hat, hsz⟩ hS (Nat.le_of_ble_eq_true rfl) (Nat.le_of_ble_eq_true rfl) dX7_init_4
theorem ziX0_init : zmI yX0_init RX0 cX0_init 1 := ⟨m_53, m_3, m_54, rfl, by decide, by decide, by decide +kernel, rfl⟩
set_option maxRecDepth 100000 in
set_option maxHeartbeats 4000000 in
theorem ctX0_init (l : Launch) (D : va_G) (cy : Nat → ClassId) (b n : Nat) (hbn : b < n) : Met l yX0_init (zw yX0_init cX0_init 1 none) (zrx 1 4 688) (va_Pc [.ref b] (zBC D cy (fun H => va_at D zcl (b, .inr (0, [.int 0, .null, .null, .null, .null])) H ∧ H.size = n))) (zqM none (fun H => va_at D zcl (b, .inr (0, [.int 0, .ref n, .ref (n + 1), .ref (n + 2), .ref (n + 3)])) H ∧ va_at D zcl (n, .inl (cy 0, 86, .inl (fun _ => 0))) H ∧ va_at D zcl (n + 1, .inl (cy 0, 86, .inl (fun _ => 0))) H ∧ va_at D zcl (n + 2, .inl (cy 0, 86, .inl (fun _ => 0))) H ∧ va_at D zcl (n + 3, .inl (cy 0, 430, .inl (fun _ => 0))) H ∧ H.size = n + 4) (zcA b n)) 4 688 (zcA b n) := by
  refine zmetC (by decide) rfl (Nat.le_of_ble_eq_true rfl) rfl (fun p e s m below meth c ls X hml hr hlocks hinit hv hl => ?_)
  obtain ⟨hK, hP, hat, hsz⟩ := hv
  obtain ⟨hx, hb, -, -⟩ := id X
  have hS : va_S (zcA b n) s.heap s.heap [] := va_S.rf
  refine lv_aload_n hx hb dX0_init_0 rfl (lv_at hl 0 rfl) ?_
  refine zkObj X hml hl.1 m_55 m_34 m_35 dX0_init_1 ⟨(Nat.le_of_ble_eq_true rfl), (Nat.le_of_ble_eq_true rfl)⟩ (Nat.le_of_ble_eq_true rfl) ?_
  refine lv_aload_n hx hb dX0_init_4 rfl (lv_at hl 0 rfl) ?_
  refine lv_bipush (v := 86) hx hb dX0_init_5 (by decide) ?_
  refine zkNI (h := n) X hK m_75 (by decide) rfl (Nat.le_of_ble_eq_true rfl) ⟨(Nat.le_of_ble_eq_true rfl), (Nat.le_of_ble_eq_true rfl)⟩ hsz hS dX0_init_7 (fun H ha0 hz ho hS => ?_)
  replace hat := va_at.kept hat (ho b (by omega))
  refine zkPF X hinit hK hat hS (Or.inl rfl) rfl zin0 tyX0 tyX0_ok nmX0 1 (by decide) rfl rfl rfl m_58 rfl (ty := .array .int) (by decide +kernel) rfl rfl (Nat.le_of_ble_eq_true rfl) dX0_init_9 (fun H locs hat hz2 ho hS => ?_)
  replace ha0 := va_at.kept ha0 (ho (n) (by omega))
  replace hsz : H.size = n + 1 := hz2.trans hz
  refine lv_aload_n hx hb dX0_init_12 rfl (lv_at hl 0 rfl) ?_
  refine lv_bipush (v := 86) hx hb dX0_init_13 (by decide) ?_
  refine zkNI (h := n + 1) X hK m_75 (by decide) rfl (Nat.le_of_ble_eq_true rfl) ⟨(Nat.le_of_ble_eq_true rfl), (Nat.le_of_ble_eq_true rfl)⟩ hsz hS dX0_init_15 (fun H ha1 hz ho hS => ?_)
  replace hat := va_at.kept hat (ho b (by omega))
  replace ha0 := va_at.kept ha0 (ho (n) (by omega))
  refine zkPF X hinit hK hat hS (Or.inl rfl) rfl zin0 tyX0 tyX0_ok nmX0 2 (by decide) rfl rfl rfl m_59 rfl (ty := .array .int) (by decide +kernel) rfl rfl (Nat.le_of_ble_eq_true rfl) dX0_init_17 (fun H locs hat hz2 ho hS => ?_)
  replace ha0 := va_at.kept ha0 (ho (n) (by omega))
  replace ha1 := va_at.kept ha1 (ho (n + 1) (by omega))
  replace hsz : H.size = n + 2 := hz2.trans hz
  refine lv_aload_n hx hb dX0_init_20 rfl (lv_at hl 0 rfl) ?_
  refine lv_bipush (v := 86) hx hb dX0_init_21 (by decide) ?_
  refine zkNI (h := n + 2) X hK m_75 (by decide) rfl (Nat.le_of_ble_eq_true rfl) ⟨(Nat.le_of_ble_eq_true rfl), (Nat.le_of_ble_eq_true rfl)⟩ hsz hS dX0_init_23 (fun H ha2 hz ho hS => ?_)
  replace hat := va_at.kept hat (ho b (by omega))
  replace ha0 := va_at.kept ha0 (ho (n) (by omega))
  replace ha1 := va_at.kept ha1 (ho (n + 1) (by omega))
  refine zkPF X hinit hK hat hS (Or.inl rfl) rfl zin0 tyX0 tyX0_ok nmX0 3 (by decide) rfl rfl rfl m_61 rfl (ty := .array .int) (by decide +kernel) rfl rfl (Nat.le_of_ble_eq_true rfl) dX0_init_25 (fun H locs hat hz2 ho hS => ?_)
  replace ha0 := va_at.kept ha0 (ho (n) (by omega))
  replace ha1 := va_at.kept ha1 (ho (n + 1) (by omega))
  replace ha2 := va_at.kept ha2 (ho (n + 2) (by omega))
  replace hsz : H.size = n + 3 := hz2.trans hz
  refine lv_aload_n hx hb dX0_init_28 rfl (lv_at hl 0 rfl) ?_
  refine lv_sipush (v := 430) hx hb dX0_init_29 (by decide) ?_
  refine zkNI (h := n + 3) X hK m_75 (by decide) rfl (Nat.le_of_ble_eq_true rfl) ⟨(Nat.le_of_ble_eq_true rfl), (Nat.le_of_ble_eq_true rfl)⟩ hsz hS dX0_init_32 (fun H ha3 hz ho hS => ?_)
  replace hat := va_at.kept hat (ho b (by omega))
  replace ha0 := va_at.kept ha0 (ho (n) (by omega))
  replace ha1 := va_at.kept ha1 (ho (n + 1) (by omega))
  replace ha2 := va_at.kept ha2 (ho (n + 2) (by omega))
  refine zkPF X hinit hK hat hS (Or.inl rfl) rfl zin0 tyX0 tyX0_ok nmX0 4 (by decide) rfl rfl rfl m_63 rfl (ty := .array .int) (by decide +kernel) rfl rfl (Nat.le_of_ble_eq_true rfl) dX0_init_34 (fun H locs hat hz2 ho hS => ?_)
  replace ha0 := va_at.kept ha0 (ho (n) (by omega))
  replace ha1 := va_at.kept ha1 (ho (n + 1) (by omega))
  replace ha2 := va_at.kept ha2 (ho (n + 2) (by omega))
  replace ha3 := va_at.kept ha3 (ho (n + 3) (by omega))
  replace hsz : H.size = n + 4 := hz2.trans hz
  exact zkE X hr hlocks ⟨hat, ha0, ha1, ha2, ha3, hsz⟩ hS (Nat.le_of_ble_eq_true rfl) (Nat.le_of_ble_eq_true rfl) dX0_init_37
theorem ziX1_init : zmI yX1_init RX1 cX1_init 1 := ⟨m_91, m_5, m_92, rfl, by decide, by decide, by decide +kernel, rfl⟩
set_option maxRecDepth 100000 in
set_option maxHeartbeats 4000000 in
theorem ctX1_init (l : Launch) (D : va_G) (cy : Nat → ClassId) (b n : Nat) (hbn : b < n) : Met l yX1_init (zw yX1_init cX1_init 1 none) (zrx 1 1 5) (va_Pc [.ref b] (zBC D cy (fun H => va_at D zcl (b, .inr (1, [.int 0, .int 0, .int 0, .int 0, .int 0, .int 0, .int 0, .int 0, .null, .int 0, .int 0, .int 0, .long 0, .int 0, .int 0, .int 0, .int 0, .int 0, .int 0, .int 0])) H ∧ H.size = n))) (zqM none (fun H => va_at D zcl (b, .inr (1, [.int 0, .int 0, .int 0, .int 0, .int 0, .int 0, .int 0, .int 0, .ref n, .int 0, .int 0, .int 0, .long 0, .int 0, .int 0, .int 0, .int 0, .int 0, .int 0, .int 0])) H ∧ va_at D zcl (n, .inl (cy 0, 5, .inl (fun _ => 0))) H ∧ H.size = n + 1) (zcA b n)) 1 5 (zcA b n) := by
  refine zmetC (by decide) rfl (Nat.le_of_ble_eq_true rfl) rfl (fun p e s m below meth c ls X hml hr hlocks hinit hv hl => ?_)
  obtain ⟨hK, hP, hat, hsz⟩ := hv
  obtain ⟨hx, hb, -, -⟩ := id X
  have hS : va_S (zcA b n) s.heap s.heap [] := va_S.rf
  refine lv_aload_n hx hb dX1_init_0 rfl (lv_at hl 0 rfl) ?_
  refine zkObj X hml hl.1 m_93 m_34 m_35 dX1_init_1 ⟨(Nat.le_of_ble_eq_true rfl), (Nat.le_of_ble_eq_true rfl)⟩ (Nat.le_of_ble_eq_true rfl) ?_
  refine lv_aload_n hx hb dX1_init_4 rfl (lv_at hl 0 rfl) ?_
  refine lv_iconst (v := 5) hx hb dX1_init_5 (by decide) ?_
  refine zkNI (h := n) X hK m_75 (by decide) rfl (Nat.le_of_ble_eq_true rfl) ⟨(Nat.le_of_ble_eq_true rfl), (Nat.le_of_ble_eq_true rfl)⟩ hsz hS dX1_init_6 (fun H ha0 hz ho hS => ?_)
  replace hat := va_at.kept hat (ho b (by omega))
  refine zkPF X hinit hK hat hS (Or.inl rfl) rfl zin1 tyX1 tyX1_ok nmX1 8 (by decide) rfl rfl rfl m_114 rfl (ty := .array .int) (by decide +kernel) rfl rfl (Nat.le_of_ble_eq_true rfl) dX1_init_8 (fun H locs hat hz2 ho hS => ?_)
  replace ha0 := va_at.kept ha0 (ho (n) (by omega))
  replace hsz : H.size = n + 1 := hz2.trans hz
  exact zkE X hr hlocks ⟨hat, ha0, hsz⟩ hS (Nat.le_of_ble_eq_true rfl) (Nat.le_of_ble_eq_true rfl) dX1_init_11
theorem ziX2_init : zmI yX2_init RX2 cX2_init 1 := ⟨m_300, m_8, m_301, rfl, by decide, by decide, by decide +kernel, rfl⟩
set_option maxRecDepth 100000 in
set_option maxHeartbeats 4000000 in
theorem ctX2_init (l : Launch) (D : va_G) (cy : Nat → ClassId) (b n : Nat) (hbn : b < n) : Met l yX2_init (zw yX2_init cX2_init 1 none) (zrx 1 1 2560) (va_Pc [.ref b] (zBC D cy (fun H => va_at D zcl (b, .inr (2, [.int 0, .null])) H ∧ H.size = n))) (zqM none (fun H => va_at D zcl (b, .inr (2, [.int 0, .ref n])) H ∧ va_at D zcl (n, .inl (cy 0, 2560, .inl (fun _ => 0))) H ∧ H.size = n + 1) (zcA b n)) 1 2560 (zcA b n) := by
  refine zmetC (by decide) rfl (Nat.le_of_ble_eq_true rfl) rfl (fun p e s m below meth c ls X hml hr hlocks hinit hv hl => ?_)
  obtain ⟨hK, hP, hat, hsz⟩ := hv
  obtain ⟨hx, hb, -, -⟩ := id X
  have hS : va_S (zcA b n) s.heap s.heap [] := va_S.rf
  refine lv_aload_n hx hb dX2_init_0 rfl (lv_at hl 0 rfl) ?_
  refine zkObj X hml hl.1 m_302 m_34 m_35 dX2_init_1 ⟨(Nat.le_of_ble_eq_true rfl), (Nat.le_of_ble_eq_true rfl)⟩ (Nat.le_of_ble_eq_true rfl) ?_
  refine lv_aload_n hx hb dX2_init_4 rfl (lv_at hl 0 rfl) ?_
  refine lv_sipush (v := 2560) hx hb dX2_init_5 (by decide) ?_
  refine zkNI (h := n) X hK m_75 (by decide) rfl (Nat.le_of_ble_eq_true rfl) ⟨(Nat.le_of_ble_eq_true rfl), (Nat.le_of_ble_eq_true rfl)⟩ hsz hS dX2_init_8 (fun H ha0 hz ho hS => ?_)
  replace hat := va_at.kept hat (ho b (by omega))
  refine zkPF X hinit hK hat hS (Or.inl rfl) rfl zin2 tyX2 tyX2_ok nmX2 1 (by decide) rfl rfl rfl m_305 rfl (ty := .array .int) (by decide +kernel) rfl rfl (Nat.le_of_ble_eq_true rfl) dX2_init_10 (fun H locs hat hz2 ho hS => ?_)
  replace ha0 := va_at.kept ha0 (ho (n) (by omega))
  replace hsz : H.size = n + 1 := hz2.trans hz
  exact zkE X hr hlocks ⟨hat, ha0, hsz⟩ hS (Nat.le_of_ble_eq_true rfl) (Nat.le_of_ble_eq_true rfl) dX2_init_13
theorem ziX4_init : zmI yX4_init RX4 cX4_init 1 := ⟨m_182, m_6, m_183, rfl, by decide, by decide, by decide +kernel, rfl⟩
set_option maxRecDepth 100000 in
set_option maxHeartbeats 4000000 in
theorem ctX4_init (l : Launch) (D : va_G) (cy : Nat → ClassId) (b n : Nat) (hbn : b < n) : Met l yX4_init (zw yX4_init cX4_init 1 none) (zrx 1 2 12) (va_Pc [.ref b] (zBC D cy (fun H => va_at D zcl (b, .inr (4, [.int 0, .int 0, .null, .null])) H ∧ H.size = n))) (zqM none (fun H => va_at D zcl (b, .inr (4, [.int 0, .int 0, .ref n, .ref (n + 1)])) H ∧ va_at D zcl (n, .inl (cy 0, 6, .inl (fun _ => 0))) H ∧ va_at D zcl (n + 1, .inl (cy 0, 6, .inl (fun _ => 0))) H ∧ H.size = n + 2) (zcA b n)) 2 12 (zcA b n) := by
  refine zmetC (by decide) rfl (Nat.le_of_ble_eq_true rfl) rfl (fun p e s m below meth c ls X hml hr hlocks hinit hv hl => ?_)
  obtain ⟨hK, hP, hat, hsz⟩ := hv
  obtain ⟨hx, hb, -, -⟩ := id X
  have hS : va_S (zcA b n) s.heap s.heap [] := va_S.rf
  refine lv_aload_n hx hb dX4_init_0 rfl (lv_at hl 0 rfl) ?_
  refine zkObj X hml hl.1 m_184 m_34 m_35 dX4_init_1 ⟨(Nat.le_of_ble_eq_true rfl), (Nat.le_of_ble_eq_true rfl)⟩ (Nat.le_of_ble_eq_true rfl) ?_
  refine lv_aload_n hx hb dX4_init_4 rfl (lv_at hl 0 rfl) ?_
  refine lv_bipush (v := 6) hx hb dX4_init_5 (by decide) ?_
  refine zkNI (h := n) X hK m_75 (by decide) rfl (Nat.le_of_ble_eq_true rfl) ⟨(Nat.le_of_ble_eq_true rfl), (Nat.le_of_ble_eq_true rfl)⟩ hsz hS dX4_init_7 (fun H ha0 hz ho hS => ?_)
  replace hat := va_at.kept hat (ho b (by omega))
  refine zkPF X hinit hK hat hS (Or.inl rfl) rfl zin4 tyX4 tyX4_ok nmX4 2 (by decide) rfl rfl rfl m_191 rfl (ty := .array .int) (by decide +kernel) rfl rfl (Nat.le_of_ble_eq_true rfl) dX4_init_9 (fun H locs hat hz2 ho hS => ?_)
  replace ha0 := va_at.kept ha0 (ho (n) (by omega))
  replace hsz : H.size = n + 1 := hz2.trans hz
  refine lv_aload_n hx hb dX4_init_12 rfl (lv_at hl 0 rfl) ?_
  refine lv_bipush (v := 6) hx hb dX4_init_13 (by decide) ?_
  refine zkNI (h := n + 1) X hK m_75 (by decide) rfl (Nat.le_of_ble_eq_true rfl) ⟨(Nat.le_of_ble_eq_true rfl), (Nat.le_of_ble_eq_true rfl)⟩ hsz hS dX4_init_15 (fun H ha1 hz ho hS => ?_)
  replace hat := va_at.kept hat (ho b (by omega))
  replace ha0 := va_at.kept ha0 (ho (n) (by omega))
  refine zkPF X hinit hK hat hS (Or.inl rfl) rfl zin4 tyX4 tyX4_ok nmX4 3 (by decide) rfl rfl rfl m_194 rfl (ty := .array .int) (by decide +kernel) rfl rfl (Nat.le_of_ble_eq_true rfl) dX4_init_17 (fun H locs hat hz2 ho hS => ?_)
  replace ha0 := va_at.kept ha0 (ho (n) (by omega))
  replace ha1 := va_at.kept ha1 (ho (n + 1) (by omega))
  replace hsz : H.size = n + 2 := hz2.trans hz
  exact zkE X hr hlocks ⟨hat, ha0, ha1, hsz⟩ hS (Nat.le_of_ble_eq_true rfl) (Nat.le_of_ble_eq_true rfl) dX4_init_20
def zcr (g : Nat → Nat) (i : Nat) : Nat → Option Nat := fun j => if j < i then some (g j) else none
theorem zcr_up (g : Nat → Nat) (i : Nat) : va_up (zcr g i) i (some (g i)) = zcr g (i + 1) := by
  funext j
  by_cases h : j = i
  · subst h; simp [va_up, zcr]
  · by_cases h2 : j < i
    · simp [va_up, zcr, h, h2, Nat.lt_succ_of_lt h2]
    · have h3 : ¬ j < i + 1 := by omega
      simp [va_up, zcr, h, h2, h3]
theorem zcr_0 (g : Nat → Nat) : zcr g 0 = fun _ => none := by
  funext j
  simp [zcr]
/-- a loft in the making: so many riggers, canopies, loads, findings are there -/
def zLB (D : va_G) (cy : Nat → ClassId) (n ir ic il jf : Nat) (H : Heap) : Prop :=
  (va_at D zcl (n + 4, .inr (0, [.int 0, .ref (n + 5), .ref (n + 6), .ref (n + 7), .ref (n + 8)])) H ∧ va_at D zcl (n + 5, .inl (cy 0, 86, .inl (fun _ => 0))) H ∧ va_at D zcl (n + 6, .inl (cy 0, 86, .inl (fun _ => 0))) H ∧ va_at D zcl (n + 7, .inl (cy 0, 86, .inl (fun _ => 0))) H ∧ va_at D zcl (n + 8, .inl (cy 0, 430, .inl (fun _ => 0))) H) ∧
  (∀ j, j < ir → va_at D zcl (n + 9 + j, .inr (6, [.int 0, .int 0])) H) ∧
  (∀ j, j < ic → va_at D zcl (n + 17 + 2 * j, .inr (1, [.int 0, .int 0, .int 0, .int 0, .int 0, .int 0, .int 0, .int 0, .ref (n + 18 + 2 * j), .int 0, .int 0, .int 0, .long 0, .int 0, .int 0, .int 0, .int 0, .int 0, .int 0, .int 0])) H ∧ va_at D zcl (n + 18 + 2 * j, .inl (cy 0, 5, .inl (fun _ => 0))) H) ∧
  (∀ j, j < il → va_at D zcl (n + 65 + 3 * j, .inr (4, [.int 0, .int 0, .ref (n + 66 + 3 * j), .ref (n + 67 + 3 * j)])) H ∧ va_at D zcl (n + 66 + 3 * j, .inl (cy 0, 6, .inl (fun _ => 0))) H ∧ va_at D zcl (n + 67 + 3 * j, .inl (cy 0, 6, .inl (fun _ => 0))) H) ∧
  (∀ j, j < jf → va_at D zcl (n + 155 + j, .inr (3, [.int 0, .int 0, .int 0, .int 0, .int 0, .int 0, .int 0])) H)
/-- its four rows of references -/
def zLR (D : va_G) (cy : Nat → ClassId) (n ir ic il jf : Nat) (H : Heap) : Prop :=
  va_at D zcl (n, .inl (cy 1, 8, .inr (.inr (.inr (.inr (zcr (fun j => n + 9 + j) ir)))))) H ∧ va_at D zcl (n + 1, .inl (cy 2, 24, .inr (.inr (.inr (.inr (zcr (fun j => n + 17 + 2 * j) ic)))))) H ∧ va_at D zcl (n + 2, .inl (cy 3, 30, .inr (.inr (.inr (.inr (zcr (fun j => n + 65 + 3 * j) il)))))) H ∧ va_at D zcl (n + 3, .inl (cy 4, 12, .inr (.inr (.inr (.inr (zcr (fun j => n + 155 + j) jf)))))) H
theorem zLB.kept {D : va_G} {cy : Nat → ClassId} {n ir ic il jf : Nat} {H H1 : Heap} (h : zLB D cy n ir ic il jf H) (o : ∀ q, n + 4 ≤ q → q < H.size → H1[q]? = H[q]?) : zLB D cy n ir ic il jf H1 := by
  obtain ⟨⟨a0, a1, a2, a3, a4⟩, h1, h2, h3, h4⟩ := h
  have k : ∀ {q : Nat × va_E}, n + 4 ≤ q.1 → va_at D zcl q H → va_at D zcl q H1 := fun hq hv => va_at.kept hv (o _ hq (va_at.lt hv))
  exact ⟨⟨k (by show _ ≤ n + 4; omega) a0, k (by show _ ≤ n + 5; omega) a1, k (by show _ ≤ n + 6; omega) a2, k (by show _ ≤ n + 7; omega) a3, k (by show _ ≤ n + 8; omega) a4⟩, fun j hj => k (by show _ ≤ n + 9 + j; omega) (h1 j hj), fun j hj => ⟨k (by show _ ≤ n + 17 + 2 * j; omega) (h2 j hj).1, k (by show _ ≤ n + 18 + 2 * j; omega) (h2 j hj).2⟩, fun j hj => ⟨k (by show _ ≤ n + 65 + 3 * j; omega) (h3 j hj).1, k (by show _ ≤ n + 66 + 3 * j; omega) (h3 j hj).2.1, k (by show _ ≤ n + 67 + 3 * j; omega) (h3 j hj).2.2⟩, fun j hj => k (by show _ ≤ n + 155 + j; omega) (h4 j hj)⟩
theorem zLR.kept {D : va_G} {cy : Nat → ClassId} {n ir ic il jf : Nat} {H H1 : Heap} (h : zLR D cy n ir ic il jf H) (o : ∀ q, n ≤ q → q < H.size → H1[q]? = H[q]?) : zLR D cy n ir ic il jf H1 := by
  obtain ⟨h1, h2, h3, h4⟩ := h
  exact ⟨va_at.kept h1 (o _ (by show n ≤ n; omega) (va_at.lt h1)), va_at.kept h2 (o _ (by show n ≤ n + 1; omega) (va_at.lt h2)), va_at.kept h3 (o _ (by show n ≤ n + 2; omega) (va_at.lt h3)), va_at.kept h4 (o _ (by show n ≤ n + 3; omega) (va_at.lt h4))⟩
theorem ziX5_init : zmI yX5_init RX5 cX5_init 2 := ⟨m_39, m_2, m_40, rfl, by decide, by decide, by decide +kernel, rfl⟩
set_option maxRecDepth 100000 in
set_option maxHeartbeats 4000000 in
theorem ctX5_init (l : Launch) (D : va_G) (cy : Nat → ClassId) (b n : Nat) (hbn : b < n) : Met l yX5_init (zw yX5_init cX5_init 2 none) (zrx 3 167 1947) (va_Pc [.ref b] (zBC D cy (fun H => va_at D zcl (b, .inr (5, [.null, .null, .null, .null, .null, .int 0, .int 0, .int 0, .int 0, .int 0, .int 0, .long 0, .int 0])) H ∧ H.size = n))) (zqM none (fun H => (va_at D zcl (b, .inr (5, [.ref n, .ref (n + 1), .ref (n + 2), .ref (n + 3), .ref (n + 4), .int 0, .int 0, .int 0, .int 0, .int 0, .int 180, .long 0, .int 0])) H ∧ zLR D cy n 8 24 30 12 H ∧ zLB D cy n 8 24 30 12 H) ∧ H.size = n + 167) (zcA b n)) 167 1947 (zcA b n) := by
  refine zmetC (by decide) rfl (Nat.le_of_ble_eq_true rfl) rfl (fun p e s m below meth c ls X hml hr hlocks hinit hv hl => ?_)
  obtain ⟨hK, hP, hat, hsz⟩ := hv
  obtain ⟨hx, hb, -, -⟩ := id X
  have hS : va_S (zcA b n) s.heap s.heap [] := va_S.rf
  have loop134 : ∀ (k i : Nat) (ls : Array Slot) (H : Heap) (locs : List Loc), 12 - i < k → i ≤ 12 → lv_has ls 2 [(1, .int (nI i)), (0, .ref b)] → H.size = n + 155 + i → va_at D zcl (b, .inr (5, [.ref n, .ref (n + 1), .ref (n + 2), .ref (n + 3), .ref (n + 4), .int 0, .int 0, .int 0, .int 0, .int 0, .int 0, .long 0, .int 0])) H → zLR D cy n 8 24 30 i H → zLB D cy n 8 24 30 i H → va_S (zcA b n) s.heap H locs → W p l e (zrx 3 167 1947) s m ([.ref b] : List Value).toArray below meth c H locs (155 + 1 * i) (1863 + 7 * i) (MQ below (zqM none (fun H => (va_at D zcl (b, .inr (5, [.ref n, .ref (n + 1), .ref (n + 2), .ref (n + 3), .ref (n + 4), .int 0, .int 0, .int 0, .int 0, .int 0, .int 180, .long 0, .int 0])) H ∧ zLR D cy n 8 24 30 12 H ∧ zLB D cy n 8 24 30 12 H) ∧ H.size = n + 167) (zcA b n)) ([.ref b] : List Value).toArray s 167 1947 (zcA b n)) (F0 m 134 ls []) := by
    intro k
    induction k with
    | zero => intro i ls H locs hk; exact absurd hk (Nat.not_lt_zero _)
    | succ k ih =>
      intro i ls H locs hk hi hl hsz hat hR hB hS
      refine lv_iload_n hx hb dX5_init_134 rfl (lv_at hl 0 rfl) ?_
      refine lv_bipush (v := 12) hx hb dX5_init_135 (by decide) ?_
      refine lv_icmp_ge (tgt := 159) hx hb dX5_init_137 (by decide) (fun b1 => ?_) (fun b1 => ?_)
      · have hi8 : i = 12 := zge_c (by decide) hi b1
        subst hi8
        refine lv_aload_n hx hb dX5_init_159 rfl (lv_at hl 1 rfl) ?_
        refine lv_sipush (v := 180) hx hb dX5_init_160 (by decide) ?_
        refine zkPN X hK hat hS (Or.inl rfl) rfl zin5 tyX5 tyX5_ok nmX5 10 (by decide) rfl rfl rfl m_266 rfl (ty := .int) (by decide +kernel) rfl rfl (Nat.le_of_ble_eq_true rfl) dX5_init_163 (fun H1 locs hat hz2 ho hS => ?_)
        exact zkE X hr hlocks ⟨⟨hat, hR.kept (H1 := H1) (fun q hq _ => ho q (by omega)), hB.kept (H1 := H1) (fun q hq _ => ho q (by omega))⟩, by omega⟩ hS (by omega) (by omega) dX5_init_166
      · have hlt : i < 12 := zlt_c (by decide) hi b1
        refine lv_aload_n hx hb dX5_init_140 rfl (lv_at hl 1 rfl) ?_
        refine z_get X hK hat rfl zin5 3 (by decide) rfl rfl rfl m_251 rfl dX5_init_141 ?_
        refine lv_iload_n hx hb dX5_init_144 rfl (lv_at hl 0 rfl) ?_
        refine zkNO (h := n + 155 + i) (ci := 3) (fs := [.int 0, .int 0, .int 0, .int 0, .int 0, .int 0, .int 0]) X hK rfl zin3 tyX3 tyX3_ok m_48 m_206 m_7 (by decide) ⟨by show _ ≤ 167; omega, by show _ ≤ 1947; omega⟩ hsz hS dX5_init_145 (fun H1 hn0 hz1 ho1 hS => ?_)
        refine lv_dup hx hb dX5_init_148 rfl ?_
        refine zcallCN (rest := [.ref (n + 155 + i), .int (nI i), .ref (n + 3)]) X hml hK hP ⟨hn0, hz1⟩ (ctX3_init l D cy (n + 155 + i) (n + 155 + i + 1) (by omega)) ziX3_init (by decide) hP.2.2.2.2.2.1 ⟨(Nat.le_of_ble_eq_true rfl), (Nat.le_of_ble_eq_true rfl)⟩ ⟨by show _ ≤ 167; omega, by show _ ≤ 1947; omega⟩ hl.1 (Nat.le_of_ble_eq_true rfl) dX5_init_149 hS (fun q hq => hq.elim (fun h => Or.inr (by omega)) (fun h => Or.inr (by omega))) (fun H2 locs hG hsz2 ho2 hS => ?_)
        obtain ⟨hn0, hz2⟩ := hG
        have ho : ∀ q, q < n + 155 + i → H2[q]? = H[q]? := fun q hq => (ho2 q (by omega) (fun z => z.elim (fun h => by omega) (fun h => by omega))).trans (ho1 q hq)
        have hat2 := va_at.kept hat (ho b (by omega))
        have hR2 := hR.kept (H1 := H2) (fun q _ hq => ho q (by omega))
        have hB2 := hB.kept (H1 := H2) (fun q _ hq => ho q (by omega))
        refine zkAA (t := 4) (i := i) X hK rfl rfl hR2.2.2.2 hn0 hlt (by decide) hS (Or.inr (by omega)) dX5_init_152 (fun H3 locs3 hr3 hz3 ho3 hS3 => ?_)
        rw [zcr_up (fun j => n + 155 + j) i] at hr3
        have hat3 := va_at.kept hat2 (ho3 b (by omega))
        have hB3 := hB2.kept (H1 := H3) (fun q hq _ => ho3 q (by omega))
        have hR3 : zLR D cy n 8 24 30 (i + 1) H3 := ⟨va_at.kept hR2.1 (ho3 _ (by show n ≠ n + 3; omega)), va_at.kept hR2.2.1 (ho3 _ (by show n + 1 ≠ n + 3; omega)), va_at.kept hR2.2.2.1 (ho3 _ (by show n + 2 ≠ n + 3; omega)), hr3⟩
        have hnew : va_at D zcl (n + 155 + i, .inr (3, [.int 0, .int 0, .int 0, .int 0, .int 0, .int 0, .int 0])) H3 := va_at.kept hn0 (ho3 _ (by show n + 155 + i ≠ _; omega))
        have hB4 : zLB D cy n 8 24 30 (i + 1) H3 := ⟨hB3.1, hB3.2.1, hB3.2.2.1, hB3.2.2.2.1, fun j hj => (Nat.lt_succ_iff_lt_or_eq.mp hj).elim (fun h => hB3.2.2.2.2 j h) (fun h => by subst h; exact hnew)⟩
        refine lv_iinc (v := nI (i + 1)) (lv' := [(1, .int (nI (i + 1))), (0, .ref b)]) hx hb dX5_init_153 hl (k := 0) rfl (nI_1 i) (by decide) rfl (fun ls hl => ?_)
        refine lv_goto (tgt := 134) hx hb dX5_init_156 (by decide) ?_
        refine zwid (k := 155 + 1 * (i + 1)) (n := 1863 + 7 * (i + 1)) (by omega) (by omega) ?_
        exact ih (i + 1) ls H3 locs3 (by omega) (by omega) hl (by omega) hat3 hR3 hB4 hS3
  have loop107 : ∀ (k i : Nat) (ls : Array Slot) (H : Heap) (locs : List Loc), 30 - i < k → i ≤ 30 → lv_has ls 2 [(1, .int (nI i)), (0, .ref b)] → H.size = n + 65 + 3 * i → va_at D zcl (b, .inr (5, [.ref n, .ref (n + 1), .ref (n + 2), .ref (n + 3), .ref (n + 4), .int 0, .int 0, .int 0, .int 0, .int 0, .int 0, .long 0, .int 0])) H → zLR D cy n 8 24 i 0 H → zLB D cy n 8 24 i 0 H → va_S (zcA b n) s.heap H locs → W p l e (zrx 3 167 1947) s m ([.ref b] : List Value).toArray below meth c H locs (65 + 3 * i) (1383 + 16 * i) (MQ below (zqM none (fun H => (va_at D zcl (b, .inr (5, [.ref n, .ref (n + 1), .ref (n + 2), .ref (n + 3), .ref (n + 4), .int 0, .int 0, .int 0, .int 0, .int 0, .int 180, .long 0, .int 0])) H ∧ zLR D cy n 8 24 30 12 H ∧ zLB D cy n 8 24 30 12 H) ∧ H.size = n + 167) (zcA b n)) ([.ref b] : List Value).toArray s 167 1947 (zcA b n)) (F0 m 107 ls []) := by
    intro k
    induction k with
    | zero => intro i ls H locs hk; exact absurd hk (Nat.not_lt_zero _)
    | succ k ih =>
      intro i ls H locs hk hi hl hsz hat hR hB hS
      refine lv_iload_n hx hb dX5_init_107 rfl (lv_at hl 0 rfl) ?_
      refine lv_bipush (v := 30) hx hb dX5_init_108 (by decide) ?_
      refine lv_icmp_ge (tgt := 132) hx hb dX5_init_110 (by decide) (fun b1 => ?_) (fun b1 => ?_)
      · have hi8 : i = 30 := zge_c (by decide) hi b1
        subst hi8
        refine lv_iconst (v := 0) hx hb dX5_init_132 (by decide) ?_
        refine lv_istore_n (lv' := [(1, .int (nI 0)), (0, .ref b)]) hx hb dX5_init_133 rfl hl (by decide) rfl (fun ls hl => ?_)
        refine zwid (k := 155 + 1 * 0) (n := 1863 + 7 * 0) (by omega) (by omega) ?_
        exact loop134 _ 0 ls H locs (Nat.lt_succ_self _) (Nat.zero_le _) hl (by omega) hat hR hB hS
      · have hlt : i < 30 := zlt_c (by decide) hi b1
        refine lv_aload_n hx hb dX5_init_113 rfl (lv_at hl 1 rfl) ?_
        refine z_get X hK hat rfl zin5 2 (by decide) rfl rfl rfl m_249 rfl dX5_init_114 ?_
        refine lv_iload_n hx hb dX5_init_117 rfl (lv_at hl 0 rfl) ?_
        refine zkNO (h := n + 65 + 3 * i) (ci := 4) (fs := [.int 0, .int 0, .null, .null]) X hK rfl zin4 tyX4 tyX4_ok m_46 m_180 m_6 (by decide) ⟨by show _ ≤ 167; omega, by show _ ≤ 1947; omega⟩ hsz hS dX5_init_118 (fun H1 hn0 hz1 ho1 hS => ?_)
        refine lv_dup hx hb dX5_init_121 rfl ?_
        refine zcallCN (rest := [.ref (n + 65 + 3 * i), .int (nI i), .ref (n + 2)]) X hml hK hP ⟨hn0, hz1⟩ (ctX4_init l D cy (n + 65 + 3 * i) (n + 65 + 3 * i + 1) (by omega)) ziX4_init (by decide) hP.2.2.2.2.1 ⟨(Nat.le_of_ble_eq_true rfl), (Nat.le_of_ble_eq_true rfl)⟩ ⟨by show _ ≤ 167; omega, by show _ ≤ 1947; omega⟩ hl.1 (Nat.le_of_ble_eq_true rfl) dX5_init_122 hS (fun q hq => hq.elim (fun h => Or.inr (by omega)) (fun h => Or.inr (by omega))) (fun H2 locs hG hsz2 ho2 hS => ?_)
        obtain ⟨hn0, hn1, hn2, hz2⟩ := hG
        have ho : ∀ q, q < n + 65 + 3 * i → H2[q]? = H[q]? := fun q hq => (ho2 q (by omega) (fun z => z.elim (fun h => by omega) (fun h => by omega))).trans (ho1 q hq)
        have hat2 := va_at.kept hat (ho b (by omega))
        have hR2 := hR.kept (H1 := H2) (fun q _ hq => ho q (by omega))
        have hB2 := hB.kept (H1 := H2) (fun q _ hq => ho q (by omega))
        refine zkAA (t := 3) (i := i) X hK rfl rfl hR2.2.2.1 hn0 hlt (by decide) hS (Or.inr (by omega)) dX5_init_125 (fun H3 locs3 hr3 hz3 ho3 hS3 => ?_)
        rw [zcr_up (fun j => n + 65 + 3 * j) i] at hr3
        have hat3 := va_at.kept hat2 (ho3 b (by omega))
        have hB3 := hB2.kept (H1 := H3) (fun q hq _ => ho3 q (by omega))
        have hR3 : zLR D cy n 8 24 (i + 1) 0 H3 := ⟨va_at.kept hR2.1 (ho3 _ (by show n ≠ n + 2; omega)), va_at.kept hR2.2.1 (ho3 _ (by show n + 1 ≠ n + 2; omega)), hr3, va_at.kept hR2.2.2.2 (ho3 _ (by show n + 3 ≠ n + 2; omega))⟩
        have hnew : va_at D zcl (n + 65 + 3 * i, .inr (4, [.int 0, .int 0, .ref (n + 66 + 3 * i), .ref (n + 67 + 3 * i)])) H3 ∧ va_at D zcl (n + 66 + 3 * i, .inl (cy 0, 6, .inl (fun _ => 0))) H3 ∧ va_at D zcl (n + 67 + 3 * i, .inl (cy 0, 6, .inl (fun _ => 0))) H3 := by
          have e1 : n + 65 + 3 * i + 1 = n + 66 + 3 * i := by omega
          have e2 : n + 66 + 3 * i + 1 = n + 67 + 3 * i := by omega
          rw [e1] at hn0 hn1 hn2
          rw [e2] at hn0 hn2
          exact ⟨va_at.kept hn0 (ho3 _ (by show n + 65 + 3 * i ≠ n + 2; omega)), va_at.kept hn1 (ho3 _ (by show n + 66 + 3 * i ≠ n + 2; omega)), va_at.kept hn2 (ho3 _ (by show n + 67 + 3 * i ≠ n + 2; omega))⟩
        have hB4 : zLB D cy n 8 24 (i + 1) 0 H3 := ⟨hB3.1, hB3.2.1, hB3.2.2.1, fun j hj => (Nat.lt_succ_iff_lt_or_eq.mp hj).elim (fun h => hB3.2.2.2.1 j h) (fun h => by subst h; exact hnew), hB3.2.2.2.2⟩
        refine lv_iinc (v := nI (i + 1)) (lv' := [(1, .int (nI (i + 1))), (0, .ref b)]) hx hb dX5_init_126 hl (k := 0) rfl (nI_1 i) (by decide) rfl (fun ls hl => ?_)
        refine lv_goto (tgt := 107) hx hb dX5_init_129 (by decide) ?_
        refine zwid (k := 65 + 3 * (i + 1)) (n := 1383 + 16 * (i + 1)) (by omega) (by omega) ?_
        exact ih (i + 1) ls H3 locs3 (by omega) (by omega) hl (by omega) hat3 hR3 hB4 hS3
  have loop80 : ∀ (k i : Nat) (ls : Array Slot) (H : Heap) (locs : List Loc), 24 - i < k → i ≤ 24 → lv_has ls 2 [(1, .int (nI i)), (0, .ref b)] → H.size = n + 17 + 2 * i → va_at D zcl (b, .inr (5, [.ref n, .ref (n + 1), .ref (n + 2), .ref (n + 3), .ref (n + 4), .int 0, .int 0, .int 0, .int 0, .int 0, .int 0, .long 0, .int 0])) H → zLR D cy n 8 i 0 0 H → zLB D cy n 8 i 0 0 H → va_S (zcA b n) s.heap H locs → W p l e (zrx 3 167 1947) s m ([.ref b] : List Value).toArray below meth c H locs (17 + 2 * i) (783 + 25 * i) (MQ below (zqM none (fun H => (va_at D zcl (b, .inr (5, [.ref n, .ref (n + 1), .ref (n + 2), .ref (n + 3), .ref (n + 4), .int 0, .int 0, .int 0, .int 0, .int 0, .int 180, .long 0, .int 0])) H ∧ zLR D cy n 8 24 30 12 H ∧ zLB D cy n 8 24 30 12 H) ∧ H.size = n + 167) (zcA b n)) ([.ref b] : List Value).toArray s 167 1947 (zcA b n)) (F0 m 80 ls []) := by
    intro k
    induction k with
    | zero => intro i ls H locs hk; exact absurd hk (Nat.not_lt_zero _)
    | succ k ih =>
      intro i ls H locs hk hi hl hsz hat hR hB hS
      refine lv_iload_n hx hb dX5_init_80 rfl (lv_at hl 0 rfl) ?_
      refine lv_bipush (v := 24) hx hb dX5_init_81 (by decide) ?_
      refine lv_icmp_ge (tgt := 105) hx hb dX5_init_83 (by decide) (fun b1 => ?_) (fun b1 => ?_)
      · have hi8 : i = 24 := zge_c (by decide) hi b1
        subst hi8
        refine lv_iconst (v := 0) hx hb dX5_init_105 (by decide) ?_
        refine lv_istore_n (lv' := [(1, .int (nI 0)), (0, .ref b)]) hx hb dX5_init_106 rfl hl (by decide) rfl (fun ls hl => ?_)
        refine zwid (k := 65 + 3 * 0) (n := 1383 + 16 * 0) (by omega) (by omega) ?_
        exact loop107 _ 0 ls H locs (Nat.lt_succ_self _) (Nat.zero_le _) hl (by omega) hat hR hB hS
      · have hlt : i < 24 := zlt_c (by decide) hi b1
        refine lv_aload_n hx hb dX5_init_86 rfl (lv_at hl 1 rfl) ?_
        refine z_get X hK hat rfl zin5 1 (by decide) rfl rfl rfl m_246 rfl dX5_init_87 ?_
        refine lv_iload_n hx hb dX5_init_90 rfl (lv_at hl 0 rfl) ?_
        refine zkNO (h := n + 17 + 2 * i) (ci := 1) (fs := [.int 0, .int 0, .int 0, .int 0, .int 0, .int 0, .int 0, .int 0, .null, .int 0, .int 0, .int 0, .long 0, .int 0, .int 0, .int 0, .int 0, .int 0, .int 0, .int 0]) X hK rfl zin1 tyX1 tyX1_ok m_44 m_89 m_5 (by decide) ⟨by show _ ≤ 167; omega, by show _ ≤ 1947; omega⟩ hsz hS dX5_init_91 (fun H1 hn0 hz1 ho1 hS => ?_)
        refine lv_dup hx hb dX5_init_94 rfl ?_
        refine zcallCN (rest := [.ref (n + 17 + 2 * i), .int (nI i), .ref (n + 1)]) X hml hK hP ⟨hn0, hz1⟩ (ctX1_init l D cy (n + 17 + 2 * i) (n + 17 + 2 * i + 1) (by omega)) ziX1_init (by decide) hP.2.2.2.1 ⟨(Nat.le_of_ble_eq_true rfl), (Nat.le_of_ble_eq_true rfl)⟩ ⟨by show _ ≤ 167; omega, by show _ ≤ 1947; omega⟩ hl.1 (Nat.le_of_ble_eq_true rfl) dX5_init_95 hS (fun q hq => hq.elim (fun h => Or.inr (by omega)) (fun h => Or.inr (by omega))) (fun H2 locs hG hsz2 ho2 hS => ?_)
        obtain ⟨hn0, hn1, hz2⟩ := hG
        have ho : ∀ q, q < n + 17 + 2 * i → H2[q]? = H[q]? := fun q hq => (ho2 q (by omega) (fun z => z.elim (fun h => by omega) (fun h => by omega))).trans (ho1 q hq)
        have hat2 := va_at.kept hat (ho b (by omega))
        have hR2 := hR.kept (H1 := H2) (fun q _ hq => ho q (by omega))
        have hB2 := hB.kept (H1 := H2) (fun q _ hq => ho q (by omega))
        refine zkAA (t := 2) (i := i) X hK rfl rfl hR2.2.1 hn0 hlt (by decide) hS (Or.inr (by omega)) dX5_init_98 (fun H3 locs3 hr3 hz3 ho3 hS3 => ?_)
        rw [zcr_up (fun j => n + 17 + 2 * j) i] at hr3
        have hat3 := va_at.kept hat2 (ho3 b (by omega))
        have hB3 := hB2.kept (H1 := H3) (fun q hq _ => ho3 q (by omega))
        have hR3 : zLR D cy n 8 (i + 1) 0 0 H3 := ⟨va_at.kept hR2.1 (ho3 _ (by show n ≠ n + 1; omega)), hr3, va_at.kept hR2.2.2.1 (ho3 _ (by show n + 2 ≠ n + 1; omega)), va_at.kept hR2.2.2.2 (ho3 _ (by show n + 3 ≠ n + 1; omega))⟩
        have hnew : va_at D zcl (n + 17 + 2 * i, .inr (1, [.int 0, .int 0, .int 0, .int 0, .int 0, .int 0, .int 0, .int 0, .ref (n + 18 + 2 * i), .int 0, .int 0, .int 0, .long 0, .int 0, .int 0, .int 0, .int 0, .int 0, .int 0, .int 0])) H3 ∧ va_at D zcl (n + 18 + 2 * i, .inl (cy 0, 5, .inl (fun _ => 0))) H3 := by
          have e1 : n + 17 + 2 * i + 1 = n + 18 + 2 * i := by omega
          rw [e1] at hn0 hn1
          exact ⟨va_at.kept hn0 (ho3 _ (by show n + 17 + 2 * i ≠ n + 1; omega)), va_at.kept hn1 (ho3 _ (by show n + 18 + 2 * i ≠ n + 1; omega))⟩
        have hB4 : zLB D cy n 8 (i + 1) 0 0 H3 := ⟨hB3.1, hB3.2.1, fun j hj => (Nat.lt_succ_iff_lt_or_eq.mp hj).elim (fun h => hB3.2.2.1 j h) (fun h => by subst h; exact hnew), hB3.2.2.2.1, hB3.2.2.2.2⟩
        refine lv_iinc (v := nI (i + 1)) (lv' := [(1, .int (nI (i + 1))), (0, .ref b)]) hx hb dX5_init_99 hl (k := 0) rfl (nI_1 i) (by decide) rfl (fun ls hl => ?_)
        refine lv_goto (tgt := 80) hx hb dX5_init_102 (by decide) ?_
        refine zwid (k := 17 + 2 * (i + 1)) (n := 783 + 25 * (i + 1)) (by omega) (by omega) ?_
        exact ih (i + 1) ls H3 locs3 (by omega) (by omega) hl (by omega) hat3 hR3 hB4 hS3
  have loop53 : ∀ (k i : Nat) (ls : Array Slot) (H : Heap) (locs : List Loc), 8 - i < k → i ≤ 8 → lv_has ls 2 [(1, .int (nI i)), (0, .ref b)] → H.size = n + 9 + i → va_at D zcl (b, .inr (5, [.ref n, .ref (n + 1), .ref (n + 2), .ref (n + 3), .ref (n + 4), .int 0, .int 0, .int 0, .int 0, .int 0, .int 0, .long 0, .int 0])) H → zLR D cy n i 0 0 0 H → zLB D cy n i 0 0 0 H → va_S (zcA b n) s.heap H locs → W p l e (zrx 3 167 1947) s m ([.ref b] : List Value).toArray below meth c H locs (9 + 1 * i) (767 + 2 * i) (MQ below (zqM none (fun H => (va_at D zcl (b, .inr (5, [.ref n, .ref (n + 1), .ref (n + 2), .ref (n + 3), .ref (n + 4), .int 0, .int 0, .int 0, .int 0, .int 0, .int 180, .long 0, .int 0])) H ∧ zLR D cy n 8 24 30 12 H ∧ zLB D cy n 8 24 30 12 H) ∧ H.size = n + 167) (zcA b n)) ([.ref b] : List Value).toArray s 167 1947 (zcA b n)) (F0 m 53 ls []) := by
    intro k
    induction k with
    | zero => intro i ls H locs hk; exact absurd hk (Nat.not_lt_zero _)
    | succ k ih =>
      intro i ls H locs hk hi hl hsz hat hR hB hS
      refine lv_iload_n hx hb dX5_init_53 rfl (lv_at hl 0 rfl) ?_
      refine lv_bipush (v := 8) hx hb dX5_init_54 (by decide) ?_
      refine lv_icmp_ge (tgt := 78) hx hb dX5_init_56 (by decide) (fun b1 => ?_) (fun b1 => ?_)
      · have hi8 : i = 8 := zge_c (by decide) hi b1
        subst hi8
        refine lv_iconst (v := 0) hx hb dX5_init_78 (by decide) ?_
        refine lv_istore_n (lv' := [(1, .int (nI 0)), (0, .ref b)]) hx hb dX5_init_79 rfl hl (by decide) rfl (fun ls hl => ?_)
        refine zwid (k := 17 + 2 * 0) (n := 783 + 25 * 0) (by omega) (by omega) ?_
        exact loop80 _ 0 ls H locs (Nat.lt_succ_self _) (Nat.zero_le _) hl (by omega) hat hR hB hS
      · have hlt : i < 8 := zlt_c (by decide) hi b1
        refine lv_aload_n hx hb dX5_init_59 rfl (lv_at hl 1 rfl) ?_
        refine z_get X hK hat rfl zin5 0 (by decide) rfl rfl rfl m_244 rfl dX5_init_60 ?_
        refine lv_iload_n hx hb dX5_init_63 rfl (lv_at hl 0 rfl) ?_
        refine zkNO (h := n + 9 + i) (ci := 6) (fs := [.int 0, .int 0]) X hK rfl zin6 tyX7 tyX7_ok m_42 m_76 m_4 (by decide) ⟨by show _ ≤ 167; omega, by show _ ≤ 1947; omega⟩ hsz hS dX5_init_64 (fun H1 hn0 hz1 ho1 hS => ?_)
        refine lv_dup hx hb dX5_init_67 rfl ?_
        refine zcallCN (rest := [.ref (n + 9 + i), .int (nI i), .ref n]) X hml hK hP ⟨hn0, hz1⟩ (ctX7_init l D cy (n + 9 + i) (n + 9 + i + 1) (by omega)) ziX7_init (by decide) hP.2.2.1 ⟨(Nat.le_of_ble_eq_true rfl), (Nat.le_of_ble_eq_true rfl)⟩ ⟨by show _ ≤ 167; omega, by show _ ≤ 1947; omega⟩ hl.1 (Nat.le_of_ble_eq_true rfl) dX5_init_68 hS (fun q hq => hq.elim (fun h => Or.inr (by omega)) (fun h => Or.inr (by omega))) (fun H2 locs hG hsz2 ho2 hS => ?_)
        obtain ⟨hn0, hz2⟩ := hG
        have ho : ∀ q, q < n + 9 + i → H2[q]? = H[q]? := fun q hq => (ho2 q (by omega) (fun z => z.elim (fun h => by omega) (fun h => by omega))).trans (ho1 q hq)
        have hat2 := va_at.kept hat (ho b (by omega))
        have hR2 := hR.kept (H1 := H2) (fun q _ hq => ho q (by omega))
        have hB2 := hB.kept (H1 := H2) (fun q _ hq => ho q (by omega))
        refine zkAA (t := 1) (i := i) X hK rfl rfl hR2.1 hn0 hlt (by decide) hS (Or.inr (by omega)) dX5_init_71 (fun H3 locs3 hr3 hz3 ho3 hS3 => ?_)
        rw [zcr_up (fun j => n + 9 + j) i] at hr3
        have hat3 := va_at.kept hat2 (ho3 b (by omega))
        have hB3 := hB2.kept (H1 := H3) (fun q hq _ => ho3 q (by omega))
        have hR3 : zLR D cy n (i + 1) 0 0 0 H3 := ⟨hr3, va_at.kept hR2.2.1 (ho3 _ (by show n + 1 ≠ n; omega)), va_at.kept hR2.2.2.1 (ho3 _ (by show n + 2 ≠ n; omega)), va_at.kept hR2.2.2.2 (ho3 _ (by show n + 3 ≠ n; omega))⟩
        have hnew : va_at D zcl (n + 9 + i, .inr (6, [.int 0, .int 0])) H3 := va_at.kept hn0 (ho3 _ (by show n + 9 + i ≠ _; omega))
        have hB4 : zLB D cy n (i + 1) 0 0 0 H3 := ⟨hB3.1, fun j hj => (Nat.lt_succ_iff_lt_or_eq.mp hj).elim (fun h => hB3.2.1 j h) (fun h => by subst h; exact hnew), hB3.2.2.1, hB3.2.2.2.1, hB3.2.2.2.2⟩
        refine lv_iinc (v := nI (i + 1)) (lv' := [(1, .int (nI (i + 1))), (0, .ref b)]) hx hb dX5_init_72 hl (k := 0) rfl (nI_1 i) (by decide) rfl (fun ls hl => ?_)
        refine lv_goto (tgt := 53) hx hb dX5_init_75 (by decide) ?_
        refine zwid (k := 9 + 1 * (i + 1)) (n := 767 + 2 * (i + 1)) (by omega) (by omega) ?_
        exact ih (i + 1) ls H3 locs3 (by omega) (by omega) hl (by omega) hat3 hR3 hB4 hS3
  refine lv_aload_n hx hb dX5_init_0 rfl (lv_at hl 0 rfl) ?_
  refine zkObj X hml hl.1 m_41 m_34 m_35 dX5_init_1 ⟨(Nat.le_of_ble_eq_true rfl), (Nat.le_of_ble_eq_true rfl)⟩ (Nat.le_of_ble_eq_true rfl) ?_
  refine lv_aload_n hx hb dX5_init_4 rfl (lv_at hl 0 rfl) ?_
  refine lv_bipush (v := 8) hx hb dX5_init_5 (by decide) ?_
  refine zkNR (h := n) (t := 1) X hK rfl m_42 hP.1.1 (by decide) rfl (Nat.le_of_ble_eq_true rfl) ⟨(Nat.le_of_ble_eq_true rfl), (Nat.le_of_ble_eq_true rfl)⟩ hsz hS dX5_init_7 (fun H ha0 hz ho hS => ?_)
  replace hat := va_at.kept hat (ho b (by omega))
  refine zkPF X hinit hK hat hS (Or.inl rfl) rfl zin5 tyX5 tyX5_ok nmX5 0 (by decide) rfl rfl rfl m_244 rfl (ty := .array (.object "Silkloft$Rigger")) (by decide +kernel) rfl rfl (Nat.le_of_ble_eq_true rfl) dX5_init_10 (fun H locs hat hz2 ho hS => ?_)
  replace ha0 := va_at.kept ha0 (ho (n) (by omega))
  replace hsz : H.size = n + 1 := hz2.trans hz
  refine lv_aload_n hx hb dX5_init_13 rfl (lv_at hl 0 rfl) ?_
  refine lv_bipush (v := 24) hx hb dX5_init_14 (by decide) ?_
  refine zkNR (h := n + 1) (t := 2) X hK rfl m_44 hP.1.2.1 (by decide) rfl (Nat.le_of_ble_eq_true rfl) ⟨(Nat.le_of_ble_eq_true rfl), (Nat.le_of_ble_eq_true rfl)⟩ hsz hS dX5_init_16 (fun H ha1 hz ho hS => ?_)
  replace hat := va_at.kept hat (ho b (by omega))
  replace ha0 := va_at.kept ha0 (ho (n) (by omega))
  refine zkPF X hinit hK hat hS (Or.inl rfl) rfl zin5 tyX5 tyX5_ok nmX5 1 (by decide) rfl rfl rfl m_246 rfl (ty := .array (.object "Silkloft$Canopy")) (by decide +kernel) rfl rfl (Nat.le_of_ble_eq_true rfl) dX5_init_19 (fun H locs hat hz2 ho hS => ?_)
  replace ha0 := va_at.kept ha0 (ho (n) (by omega))
  replace ha1 := va_at.kept ha1 (ho (n + 1) (by omega))
  replace hsz : H.size = n + 2 := hz2.trans hz
  refine lv_aload_n hx hb dX5_init_22 rfl (lv_at hl 0 rfl) ?_
  refine lv_bipush (v := 30) hx hb dX5_init_23 (by decide) ?_
  refine zkNR (h := n + 2) (t := 3) X hK rfl m_46 hP.1.2.2.1 (by decide) rfl (Nat.le_of_ble_eq_true rfl) ⟨(Nat.le_of_ble_eq_true rfl), (Nat.le_of_ble_eq_true rfl)⟩ hsz hS dX5_init_25 (fun H ha2 hz ho hS => ?_)
  replace hat := va_at.kept hat (ho b (by omega))
  replace ha0 := va_at.kept ha0 (ho (n) (by omega))
  replace ha1 := va_at.kept ha1 (ho (n + 1) (by omega))
  refine zkPF X hinit hK hat hS (Or.inl rfl) rfl zin5 tyX5 tyX5_ok nmX5 2 (by decide) rfl rfl rfl m_249 rfl (ty := .array (.object "Silkloft$Load")) (by decide +kernel) rfl rfl (Nat.le_of_ble_eq_true rfl) dX5_init_28 (fun H locs hat hz2 ho hS => ?_)
  replace ha0 := va_at.kept ha0 (ho (n) (by omega))
  replace ha1 := va_at.kept ha1 (ho (n + 1) (by omega))
  replace ha2 := va_at.kept ha2 (ho (n + 2) (by omega))
  replace hsz : H.size = n + 3 := hz2.trans hz
  refine lv_aload_n hx hb dX5_init_31 rfl (lv_at hl 0 rfl) ?_
  refine lv_bipush (v := 12) hx hb dX5_init_32 (by decide) ?_
  refine zkNR (h := n + 3) (t := 4) X hK rfl m_48 hP.1.2.2.2 (by decide) rfl (Nat.le_of_ble_eq_true rfl) ⟨(Nat.le_of_ble_eq_true rfl), (Nat.le_of_ble_eq_true rfl)⟩ hsz hS dX5_init_34 (fun H ha3 hz ho hS => ?_)
  replace hat := va_at.kept hat (ho b (by omega))
  replace ha0 := va_at.kept ha0 (ho (n) (by omega))
  replace ha1 := va_at.kept ha1 (ho (n + 1) (by omega))
  replace ha2 := va_at.kept ha2 (ho (n + 2) (by omega))
  refine zkPF X hinit hK hat hS (Or.inl rfl) rfl zin5 tyX5 tyX5_ok nmX5 3 (by decide) rfl rfl rfl m_251 rfl (ty := .array (.object "Silkloft$Finding")) (by decide +kernel) rfl rfl (Nat.le_of_ble_eq_true rfl) dX5_init_37 (fun H locs hat hz2 ho hS => ?_)
  replace ha0 := va_at.kept ha0 (ho (n) (by omega))
  replace ha1 := va_at.kept ha1 (ho (n + 1) (by omega))
  replace ha2 := va_at.kept ha2 (ho (n + 2) (by omega))
  replace ha3 := va_at.kept ha3 (ho (n + 3) (by omega))
  replace hsz : H.size = n + 4 := hz2.trans hz
  refine lv_aload_n hx hb dX5_init_40 rfl (lv_at hl 0 rfl) ?_
  refine zkNO (h := n + 4) (ci := 0) (fs := [.int 0, .null, .null, .null, .null]) X hK rfl zin0 tyX0 tyX0_ok m_50 m_51 m_3 (by decide) ⟨(Nat.le_of_ble_eq_true rfl), (Nat.le_of_ble_eq_true rfl)⟩ hsz hS dX5_init_41 (fun H hb0 hz ho hS => ?_)
  replace hat := va_at.kept hat (ho b (by omega))
  replace ha0 := va_at.kept ha0 (ho (n) (by omega))
  replace ha1 := va_at.kept ha1 (ho (n + 1) (by omega))
  replace ha2 := va_at.kept ha2 (ho (n + 2) (by omega))
  replace ha3 := va_at.kept ha3 (ho (n + 3) (by omega))
  refine lv_dup hx hb dX5_init_44 rfl ?_
  refine zcallCN (rest := [.ref (n + 4), .ref b]) X hml hK hP ⟨hb0, hz⟩ (ctX0_init l D cy (n + 4) (n + 5) (by omega)) ziX0_init (by decide) hP.2.1 ⟨(Nat.le_of_ble_eq_true rfl), (Nat.le_of_ble_eq_true rfl)⟩ ⟨(Nat.le_of_ble_eq_true rfl), (Nat.le_of_ble_eq_true rfl)⟩ hl.1 (Nat.le_of_ble_eq_true rfl) dX5_init_45 hS (fun q hq => hq.elim (fun h => Or.inr (by omega)) (fun h => Or.inr (by omega))) (fun H locs hG hsz2 ho hS => ?_)
  obtain ⟨hb0, hb1, hb2, hb3, hb4, hsz⟩ := hG
  replace hat := va_at.kept hat (ho b (by omega) (fun z => z.elim (fun h => by omega) (fun h => by omega)))
  replace ha0 := va_at.kept ha0 (ho (n) (by omega) (fun z => z.elim (fun h => by omega) (fun h => by omega)))
  replace ha1 := va_at.kept ha1 (ho (n + 1) (by omega) (fun z => z.elim (fun h => by omega) (fun h => by omega)))
  replace ha2 := va_at.kept ha2 (ho (n + 2) (by omega) (fun z => z.elim (fun h => by omega) (fun h => by omega)))
  replace ha3 := va_at.kept ha3 (ho (n + 3) (by omega) (fun z => z.elim (fun h => by omega) (fun h => by omega)))
  refine zkPF X hinit hK hat hS (Or.inl rfl) rfl zin5 tyX5 tyX5_ok nmX5 4 (by decide) rfl rfl rfl m_253 rfl (ty := .object "Silkloft$Book") (by decide +kernel) rfl rfl (Nat.le_of_ble_eq_true rfl) dX5_init_48 (fun H locs hat hz2 ho hS => ?_)
  replace hsz : H.size = n + 9 := hz2.trans hsz
  have hB : zLB D cy n 0 0 0 0 H := ⟨⟨va_at.kept hb0 (ho (n + 4) (by omega)), va_at.kept hb1 (ho (n + 5) (by omega)), va_at.kept hb2 (ho (n + 6) (by omega)), va_at.kept hb3 (ho (n + 7) (by omega)), va_at.kept hb4 (ho (n + 8) (by omega))⟩, fun _ h => absurd h (Nat.not_lt_zero _), fun _ h => absurd h (Nat.not_lt_zero _), fun _ h => absurd h (Nat.not_lt_zero _), fun _ h => absurd h (Nat.not_lt_zero _)⟩
  have hR : zLR D cy n 0 0 0 0 H := by
    refine ⟨?_, ?_, ?_, ?_⟩
    · rw [zcr_0]; exact va_at.kept ha0 (ho (n) (by omega))
    · rw [zcr_0]; exact va_at.kept ha1 (ho (n + 1) (by omega))
    · rw [zcr_0]; exact va_at.kept ha2 (ho (n + 2) (by omega))
    · rw [zcr_0]; exact va_at.kept ha3 (ho (n + 3) (by omega))
  have hat : va_at D zcl (b, .inr (5, [.ref n, .ref (n + 1), .ref (n + 2), .ref (n + 3), .ref (n + 4), .int 0, .int 0, .int 0, .int 0, .int 0, .int 0, .long 0, .int 0])) H := hat
  refine lv_iconst (v := 0) hx hb dX5_init_51 (by decide) ?_
  refine lv_istore_n (lv' := [(1, .int (nI 0)), (0, .ref b)]) hx hb dX5_init_52 rfl hl (by decide) rfl (fun ls hl => ?_)
  refine zwid (k := 9 + 1 * 0) (n := 767 + 2 * 0) (Nat.le_of_ble_eq_true rfl) (Nat.le_of_ble_eq_true rfl) ?_
  exact loop53 _ 0 ls H locs (Nat.lt_succ_self _) (Nat.zero_le _) hl (by omega) hat hR hB hS
