theorem zs_arr {A : Array Value} {s : State} {ty : FieldType} (h : (Cond.arrayClass ty).before A s = true) : ∃ c, ArrOfT s c ty ∧ s.vm.findClass ("[" ++ ty.toString) = some c := by
  obtain ⟨c, k, comp, h1, h2, h3⟩ := Cond.arrayClass_spec (first := s) (o := none) (s := s) (idx := []) h
  exact ⟨c, fun n z => ⟨fun k h => (by cases h), k, h2, comp, h3⟩, h1⟩
theorem zs_arrO {A : Array Value} {s : State} {n : String} (h : (Cond.arrayOver (.object n)).before A s = true) : ∃ c, ArrOfT s c (.object n) ∧ va_RA s c (.object n) := by
  obtain ⟨comp, c, k, hcomp, hidx, hk, hkind, hname⟩ := Cond.arrayOver_spec (first := s) (o := none) (s := s) (idx := []) h
  exact ⟨c, fun n z => ⟨fun k h => (by cases h), k, hk, comp, hkind⟩, k, comp, hk, hkind, hcomp, hname⟩
set_option maxRecDepth 100000 in
set_option maxHeartbeats 4000000 in
theorem zs_K {s : State} {b : Nat} (hts : ∀ w ∈ lw_tbl, w.before #[Value.ref b] s = true) : ∃ (D : va_G) (cy : Nat → ClassId), zK D cy s := by
  have hta : ∀ w ∈ lw_all, w.before #[Value.ref b] s = true := fun w h => hts w (lw_in h)
  obtain ⟨c0, i0, k0⟩ := u_known (C := RX0) (T := TX0) (N := 5) (n := 5) hta zin0 (hts (.instantiable RX0 5) (List.mem_append_right _ (List.mem_of_getElem? (i := 48) (by decide +kernel))))
  obtain ⟨c1, i1, k1⟩ := u_known (C := RX1) (T := TX1) (N := 20) (n := 20) hta zin1 (hts (.instantiable RX1 20) (List.mem_append_right _ (List.mem_of_getElem? (i := 86) (by decide +kernel))))
  obtain ⟨c2, i2, k2⟩ := u_known (C := RX2) (T := TX2) (N := 2) (n := 2) hta zin2 (hts (.instantiable RX2 2) (List.mem_append_right _ (List.mem_of_getElem? (i := 295) (by decide +kernel))))
  obtain ⟨c3, i3, k3⟩ := u_known (C := RX3) (T := TX3) (N := 7) (n := 7) hta zin3 (hts (.instantiable RX3 7) (List.mem_append_right _ (List.mem_of_getElem? (i := 203) (by decide +kernel))))
  obtain ⟨c4, i4, k4⟩ := u_known (C := RX4) (T := TX4) (N := 4) (n := 4) hta zin4 (hts (.instantiable RX4 4) (List.mem_append_right _ (List.mem_of_getElem? (i := 177) (by decide +kernel))))
  obtain ⟨c5, i5, k5⟩ := u_known (C := RX5) (T := TX5) (N := 13) (n := 13) hta zin5 (hts (.instantiable RX5 13) (List.mem_append_right _ (List.mem_of_getElem? (i := 34) (by decide +kernel))))
  obtain ⟨c6, i6, k6⟩ := u_known (C := RX7) (T := TX7) (N := 2) (n := 2) hta zin6 (hts (.instantiable RX7 2) (List.mem_append_right _ (List.mem_of_getElem? (i := 73) (by decide +kernel))))
  obtain ⟨c7, i7, k7⟩ := u_known (C := RX9) (T := TX9) (N := 3) (n := 3) hta zin7 (hts (.instantiable RX9 3) (List.mem_append_right _ (List.mem_of_getElem? (i := 26) (by decide +kernel))))
  obtain ⟨c8, i8, k8⟩ := u_known (C := RX10) (T := TX10) (N := 48) (n := 48) hta zin8 (hts (.instantiable RX10 48) (List.mem_append_right _ (List.mem_of_getElem? (i := 1101) (by decide +kernel))))
  obtain ⟨a0, h0, g0⟩ := zs_arr (hts (Cond.arrayClass .int) (List.mem_append_right _ (List.mem_of_getElem? (i := 72) (by decide +kernel))))
  obtain ⟨a1, h1, g1⟩ := zs_arrO (hts (Cond.arrayOver (.object "Silkloft$Rigger")) (List.mem_append_right _ (List.mem_of_getElem? (i := 40) (by decide +kernel))))
  obtain ⟨a2, h2, g2⟩ := zs_arrO (hts (Cond.arrayOver (.object "Silkloft$Canopy")) (List.mem_append_right _ (List.mem_of_getElem? (i := 42) (by decide +kernel))))
  obtain ⟨a3, h3, g3⟩ := zs_arrO (hts (Cond.arrayOver (.object "Silkloft$Load")) (List.mem_append_right _ (List.mem_of_getElem? (i := 44) (by decide +kernel))))
  obtain ⟨a4, h4, g4⟩ := zs_arrO (hts (Cond.arrayOver (.object "Silkloft$Finding")) (List.mem_append_right _ (List.mem_of_getElem? (i := 46) (by decide +kernel))))
  obtain ⟨a5, h5, g5⟩ := zs_arr (hts (Cond.arrayClass .long) (List.mem_append_right _ (List.mem_of_getElem? (i := 1487) (by decide +kernel))))
  obtain ⟨a6, h6, g6⟩ := zs_arr (hts (Cond.arrayClass .double) (List.mem_append_right _ (List.mem_of_getElem? (i := 1488) (by decide +kernel))))
  refine ⟨(fun k => match k with | 0 => c0 | 1 => c1 | 2 => c2 | 3 => c3 | 4 => c4 | 5 => c5 | 6 => c6 | 7 => c7 | _ => c8, fun k => match k with | 0 => i0 | 1 => i1 | 2 => i2 | 3 => i3 | 4 => i4 | 5 => i5 | 6 => i6 | 7 => i7 | _ => i8), fun k => match k with | 0 => a0 | 1 => a1 | 2 => a2 | 3 => a3 | 4 => a4 | 5 => a5 | _ => a6, fun k q hq => ?_, fun k q hq => ?_⟩
  · match k, hq with
    | 0, hq => cases hq; exact k0
    | 1, hq => cases hq; exact k1
    | 2, hq => cases hq; exact k2
    | 3, hq => cases hq; exact k3
    | 4, hq => cases hq; exact k4
    | 5, hq => cases hq; exact k5
    | 6, hq => cases hq; exact k6
    | 7, hq => cases hq; exact k7
    | 8, hq => cases hq; exact k8
    | k + 9, hq => simp [zcl] at hq
  · match k, hq with
    | 0, hq => cases hq; exact ⟨h0, g0⟩
    | 1, hq => cases hq; exact ⟨h1, g1⟩
    | 2, hq => cases hq; exact ⟨h2, g2⟩
    | 3, hq => cases hq; exact ⟨h3, g3⟩
    | 4, hq => cases hq; exact ⟨h4, g4⟩
    | 5, hq => cases hq; exact ⟨h5, g5⟩
    | 6, hq => cases hq; exact ⟨h6, g6⟩
    | k + 7, hq => simp at hq
theorem zs_P {s : State} {b : Nat} (hts : ∀ w ∈ lw_tbl, w.before #[Value.ref b] s = true) : zCP s := by
  refine ⟨⟨va_AO.of (hts (Cond.arrayOver (.object "Silkloft$Rigger")) (List.mem_append_right _ (List.mem_of_getElem? (i := 40) (by decide +kernel)))), va_AO.of (hts (Cond.arrayOver (.object "Silkloft$Canopy")) (List.mem_append_right _ (List.mem_of_getElem? (i := 42) (by decide +kernel)))), va_AO.of (hts (Cond.arrayOver (.object "Silkloft$Load")) (List.mem_append_right _ (List.mem_of_getElem? (i := 44) (by decide +kernel)))), va_AO.of (hts (Cond.arrayOver (.object "Silkloft$Finding")) (List.mem_append_right _ (List.mem_of_getElem? (i := 46) (by decide +kernel))))⟩, va_Nw.of rfl (hts (.methodLinkNest "Silkloft$Loft" 37 yX0_init "Silkloft") (List.mem_append_right _ (List.mem_of_getElem? (i := 49) (by decide +kernel)))), va_Nw.of rfl (hts (.methodLinkNest "Silkloft$Loft" 42 yX7_init "Silkloft") (List.mem_append_right _ (List.mem_of_getElem? (i := 74) (by decide +kernel)))), va_Nw.of rfl (hts (.methodLinkNest "Silkloft$Loft" 43 yX1_init "Silkloft") (List.mem_append_right _ (List.mem_of_getElem? (i := 87) (by decide +kernel)))), va_Nw.of rfl (hts (.methodLinkNest "Silkloft$Loft" 44 yX4_init "Silkloft") (List.mem_append_right _ (List.mem_of_getElem? (i := 178) (by decide +kernel)))), va_Nw.of rfl (hts (.methodLinkNest "Silkloft$Loft" 45 yX3_init "Silkloft") (List.mem_append_right _ (List.mem_of_getElem? (i := 204) (by decide +kernel)))), va_Nw.of rfl (hts (.methodLinkNest "Silkloft" 21 yX2_init "Silkloft") (List.mem_append_right _ (List.mem_of_getElem? (i := 296) (by decide +kernel))))⟩
theorem zs_N {s : State} {b : Nat} (hgv : (Jvm.Cond.and given_1 narrow_1).before #[Value.ref b] s = true) : zNc s := by
  have hs := flat_of_before _ hgv
  intro i j h1 h2 h3 h4 h5
  rcases (show i = 1 ∨ i = 2 ∨ i = 3 ∨ i = 4 by omega) with rfl | rfl | rfl | rfl <;> rcases (show j = 1 ∨ j = 2 ∨ j = 3 ∨ j = 4 by omega) with rfl | rfl | rfl | rfl
  · exact absurd rfl h5
  · exact va_Nc.of (hs (Cond.not (Cond.castable "java/lang/IndexOutOfBoundsException" "java/lang/IllegalArgumentException")) (by decide +kernel))
  · exact va_Nc.of (hs (Cond.not (Cond.castable "java/lang/IndexOutOfBoundsException" "java/lang/UnsupportedOperationException")) (by decide +kernel))
  · exact va_Nc.of (hs (Cond.not (Cond.castable "java/lang/IndexOutOfBoundsException" "java/lang/IllegalStateException")) (by decide +kernel))
  · exact va_Nc.of (hs (Cond.not (Cond.castable "java/lang/IllegalArgumentException" "java/lang/IndexOutOfBoundsException")) (by decide +kernel))
  · exact absurd rfl h5
  · exact va_Nc.of (hs (Cond.not (Cond.castable "java/lang/IllegalArgumentException" "java/lang/UnsupportedOperationException")) (by decide +kernel))
  · exact va_Nc.of (hs (Cond.not (Cond.castable "java/lang/IllegalArgumentException" "java/lang/IllegalStateException")) (by decide +kernel))
  · exact va_Nc.of (hs (Cond.not (Cond.castable "java/lang/UnsupportedOperationException" "java/lang/IndexOutOfBoundsException")) (by decide +kernel))
  · exact va_Nc.of (hs (Cond.not (Cond.castable "java/lang/UnsupportedOperationException" "java/lang/IllegalArgumentException")) (by decide +kernel))
  · exact absurd rfl h5
  · exact va_Nc.of (hs (Cond.not (Cond.castable "java/lang/UnsupportedOperationException" "java/lang/IllegalStateException")) (by decide +kernel))
  · exact va_Nc.of (hs (Cond.not (Cond.castable "java/lang/IllegalStateException" "java/lang/IndexOutOfBoundsException")) (by decide +kernel))
  · exact va_Nc.of (hs (Cond.not (Cond.castable "java/lang/IllegalStateException" "java/lang/IllegalArgumentException")) (by decide +kernel))
  · exact va_Nc.of (hs (Cond.not (Cond.castable "java/lang/IllegalStateException" "java/lang/UnsupportedOperationException")) (by decide +kernel))
  · exact absurd rfl h5
