/-! AT THE LAW'S ENTRY: the statics, the strings, the tables -/
theorem zq_ref {A : Array Value} {s : State} {t : Term} {C : String} (h : (Cond.exactly t C).before A s = true) : ∃ a, t.eval A s none [] s = some (.ref a) := by
  obtain ⟨a, c, cell, k, h1, -⟩ := Cond.exactly_spec (first := s) (o := none) (s := s) (idx := []) h
  exact ⟨a, h1⟩
theorem zq_ne {A : Array Value} {s : State} {t1 t2 : Term} {a1 a2 : Nat} (h : (Cond.not (Cond.eq t1 t2)).before A s = true) (h1 : t1.eval A s none [] s = some (.ref a1)) (h2 : t2.eval A s none [] s = some (.ref a2)) : a1 ≠ a2 := by
  intro e
  subst e
  simp [Cond.before, Cond.holds, Cond.value, h1, h2] at h
theorem zs_E {s : State} {b : Nat} {A : Nat → Prop} (hgv : (Jvm.Cond.and given_1 narrow_1).before #[Value.ref b] s = true) (hts : ∀ w ∈ lw_tbl, w.before #[Value.ref b] s = true) (hA : ∀ a : Nat, a < s.heap.size → ¬ A a) : ∃ rf, zE rf A s s.heap := by
  have hs := flat_of_before _ hgv
  obtain ⟨r0, e0⟩ := zq_ref (hs (Cond.exactly (Term.static "Silkloft$Refusal" "NONE" "LSilkloft$Refusal;") "Silkloft$Refusal") (by decide +kernel))
  obtain ⟨r1, e1⟩ := zq_ref (hs (Cond.exactly (Term.static "Silkloft$Refusal" "INDEX" "LSilkloft$Refusal;") "Silkloft$Refusal") (by decide +kernel))
  obtain ⟨r2, e2⟩ := zq_ref (hs (Cond.exactly (Term.static "Silkloft$Refusal" "ARGUMENT" "LSilkloft$Refusal;") "Silkloft$Refusal") (by decide +kernel))
  obtain ⟨r3, e3⟩ := zq_ref (hs (Cond.exactly (Term.static "Silkloft$Refusal" "UNSUPPORTED" "LSilkloft$Refusal;") "Silkloft$Refusal") (by decide +kernel))
  obtain ⟨r4, e4⟩ := zq_ref (hs (Cond.exactly (Term.static "Silkloft$Refusal" "STATE" "LSilkloft$Refusal;") "Silkloft$Refusal") (by decide +kernel))
  have n01 : r0 ≠ r1 := zq_ne (hs (Cond.not (Cond.eq (Term.static "Silkloft$Refusal" "NONE" "LSilkloft$Refusal;") (Term.static "Silkloft$Refusal" "INDEX" "LSilkloft$Refusal;"))) (by decide +kernel)) e0 e1
  have n03 : r0 ≠ r3 := zq_ne (hs (Cond.not (Cond.eq (Term.static "Silkloft$Refusal" "NONE" "LSilkloft$Refusal;") (Term.static "Silkloft$Refusal" "UNSUPPORTED" "LSilkloft$Refusal;"))) (by decide +kernel)) e0 e3
  have n04 : r0 ≠ r4 := zq_ne (hs (Cond.not (Cond.eq (Term.static "Silkloft$Refusal" "NONE" "LSilkloft$Refusal;") (Term.static "Silkloft$Refusal" "STATE" "LSilkloft$Refusal;"))) (by decide +kernel)) e0 e4
  have n13 : r1 ≠ r3 := zq_ne (hs (Cond.not (Cond.eq (Term.static "Silkloft$Refusal" "INDEX" "LSilkloft$Refusal;") (Term.static "Silkloft$Refusal" "UNSUPPORTED" "LSilkloft$Refusal;"))) (by decide +kernel)) e1 e3
  have n20 : r2 ≠ r0 := zq_ne (hs (Cond.not (Cond.eq (Term.static "Silkloft$Refusal" "ARGUMENT" "LSilkloft$Refusal;") (Term.static "Silkloft$Refusal" "NONE" "LSilkloft$Refusal;"))) (by decide +kernel)) e2 e0
  have n21 : r2 ≠ r1 := zq_ne (hs (Cond.not (Cond.eq (Term.static "Silkloft$Refusal" "ARGUMENT" "LSilkloft$Refusal;") (Term.static "Silkloft$Refusal" "INDEX" "LSilkloft$Refusal;"))) (by decide +kernel)) e2 e1
  have n23 : r2 ≠ r3 := zq_ne (hs (Cond.not (Cond.eq (Term.static "Silkloft$Refusal" "ARGUMENT" "LSilkloft$Refusal;") (Term.static "Silkloft$Refusal" "UNSUPPORTED" "LSilkloft$Refusal;"))) (by decide +kernel)) e2 e3
  have n24 : r2 ≠ r4 := zq_ne (hs (Cond.not (Cond.eq (Term.static "Silkloft$Refusal" "ARGUMENT" "LSilkloft$Refusal;") (Term.static "Silkloft$Refusal" "STATE" "LSilkloft$Refusal;"))) (by decide +kernel)) e2 e4
  have n41 : r4 ≠ r1 := zq_ne (hs (Cond.not (Cond.eq (Term.static "Silkloft$Refusal" "STATE" "LSilkloft$Refusal;") (Term.static "Silkloft$Refusal" "INDEX" "LSilkloft$Refusal;"))) (by decide +kernel)) e4 e1
  have n43 : r4 ≠ r3 := zq_ne (hs (Cond.not (Cond.eq (Term.static "Silkloft$Refusal" "STATE" "LSilkloft$Refusal;") (Term.static "Silkloft$Refusal" "UNSUPPORTED" "LSilkloft$Refusal;"))) (by decide +kernel)) e4 e3
  refine ⟨fun k => match k with | 0 => r0 | 1 => r1 | 2 => r2 | 3 => r3 | _ => r4, fun k hk => ?_, fun i j hi hj h => ?_, ?_, ?_, fun q hq => ?_⟩
  · rcases (show k = 0 ∨ k = 1 ∨ k = 2 ∨ k = 3 ∨ k = 4 by omega) with rfl | rfl | rfl | rfl | rfl
    · exact va_Zref (hts (Cond.laysStatic "Silkloft$Refusal" "NONE" "LSilkloft$Refusal;") (List.mem_append_right _ (List.mem_of_getElem? (i := 352) (by decide +kernel)))) (hts (Cond.initialized "Silkloft$Refusal") (List.mem_append_right _ (List.mem_of_getElem? (i := 11) (by decide +kernel)))) e0 hA
    · exact va_Zref (hts (Cond.laysStatic "Silkloft$Refusal" "INDEX" "LSilkloft$Refusal;") (List.mem_append_right _ (List.mem_of_getElem? (i := 363) (by decide +kernel)))) (hts (Cond.initialized "Silkloft$Refusal") (List.mem_append_right _ (List.mem_of_getElem? (i := 11) (by decide +kernel)))) e1 hA
    · exact va_Zref (hts (Cond.laysStatic "Silkloft$Refusal" "ARGUMENT" "LSilkloft$Refusal;") (List.mem_append_right _ (List.mem_of_getElem? (i := 350) (by decide +kernel)))) (hts (Cond.initialized "Silkloft$Refusal") (List.mem_append_right _ (List.mem_of_getElem? (i := 11) (by decide +kernel)))) e2 hA
    · exact va_Zref (hts (Cond.laysStatic "Silkloft$Refusal" "UNSUPPORTED" "LSilkloft$Refusal;") (List.mem_append_right _ (List.mem_of_getElem? (i := 378) (by decide +kernel)))) (hts (Cond.initialized "Silkloft$Refusal") (List.mem_append_right _ (List.mem_of_getElem? (i := 11) (by decide +kernel)))) e3 hA
    · exact va_Zref (hts (Cond.laysStatic "Silkloft$Refusal" "STATE" "LSilkloft$Refusal;") (List.mem_append_right _ (List.mem_of_getElem? (i := 354) (by decide +kernel)))) (hts (Cond.initialized "Silkloft$Refusal") (List.mem_append_right _ (List.mem_of_getElem? (i := 11) (by decide +kernel)))) e4 hA
  · rcases (show i = 0 ∨ i = 1 ∨ i = 2 ∨ i = 3 ∨ i = 4 by omega) with rfl | rfl | rfl | rfl | rfl <;> rcases (show j = 0 ∨ j = 1 ∨ j = 2 ∨ j = 3 ∨ j = 4 by omega) with rfl | rfl | rfl | rfl | rfl
    · rfl
    · exact absurd h n01
    · exact absurd h.symm n20
    · exact absurd h n03
    · exact absurd h n04
    · exact absurd h.symm n01
    · rfl
    · exact absurd h.symm n21
    · exact absurd h n13
    · exact absurd h.symm n41
    · exact absurd h n20
    · exact absurd h n21
    · rfl
    · exact absurd h n23
    · exact absurd h n24
    · exact absurd h.symm n03
    · exact absurd h.symm n13
    · exact absurd h.symm n23
    · rfl
    · exact absurd h.symm n43
    · exact absurd h.symm n04
    · exact absurd h n41
    · exact absurd h.symm n24
    · exact absurd h n43
    · rfl
  · exact vx_Zqof (hts (Cond.laysStatic "java/lang/Throwable" "UNASSIGNED_STACK" "[Ljava/lang/StackTraceElement;") (List.mem_append_right _ (List.mem_of_getElem? (i := 689) (by decide +kernel)))) (hts (Cond.initialized "java/lang/Throwable") (List.mem_append_right _ (List.mem_of_getElem? (i := 12) (by decide +kernel)))) (hs (Cond.isRef (Term.static "java/lang/Throwable" "UNASSIGNED_STACK" "[Ljava/lang/StackTraceElement;")) (by decide +kernel)) hA
  · exact vx_Zqof (hts (Cond.laysStatic "java/lang/Throwable" "SUPPRESSED_SENTINEL" "Ljava/util/List;") (List.mem_append_right _ (List.mem_of_getElem? (i := 691) (by decide +kernel)))) (hts (Cond.initialized "java/lang/Throwable") (List.mem_append_right _ (List.mem_of_getElem? (i := 12) (by decide +kernel)))) (hs (Cond.isRef (Term.static "java/lang/Throwable" "SUPPRESSED_SENTINEL" "Ljava/util/List;")) (by decide +kernel)) hA
  · simp only [zstr, List.mem_cons, List.not_mem_nil, or_false] at hq
    rcases hq with rfl | rfl | rfl | rfl | rfl | rfl | rfl | rfl | rfl | rfl
    · obtain ⟨a, e⟩ := zq_ref (hs (Cond.exactly (Term.string "Silkloft" 170) "java/lang/String") (by decide +kernel))
      exact ⟨a, vk_R.of (hts (Cond.stringRef "Silkloft" 170 "there is no such one") (List.mem_append_right _ (List.mem_of_getElem? (i := 707) (by decide +kernel)))) e⟩
    · obtain ⟨a, e⟩ := zq_ref (hs (Cond.exactly (Term.string "Silkloft" 175) "java/lang/String") (by decide +kernel))
      exact ⟨a, vk_R.of (hts (Cond.stringRef "Silkloft" 175 "an argument does not do") (List.mem_append_right _ (List.mem_of_getElem? (i := 744) (by decide +kernel)))) e⟩
    · obtain ⟨a, e⟩ := zq_ref (hs (Cond.exactly (Term.string "Silkloft" 182) "java/lang/String") (by decide +kernel))
      exact ⟨a, vk_R.of (hts (Cond.stringRef "Silkloft" 182 "as things are, this can't be done") (List.mem_append_right _ (List.mem_of_getElem? (i := 761) (by decide +kernel)))) e⟩
    · obtain ⟨a, e⟩ := zq_ref (hs (Cond.exactly (Term.string "Silkloft" 190) "java/lang/String") (by decide +kernel))
      exact ⟨a, vk_R.of (hts (Cond.stringRef "Silkloft" 190 "there is no room for more") (List.mem_append_right _ (List.mem_of_getElem? (i := 778) (by decide +kernel)))) e⟩
    · obtain ⟨a, e⟩ := zq_ref (hs (Cond.exactly (Term.string "Silkloft" 36) "java/lang/String") (by decide +kernel))
      exact ⟨a, vk_R.of (hts (Cond.stringRef "Silkloft" 36 "no such finding") (List.mem_append_right _ (List.mem_of_getElem? (i := 941) (by decide +kernel)))) e⟩
    · obtain ⟨a, e⟩ := zq_ref (hs (Cond.exactly (Term.string "Silkloft" 137) "java/lang/String") (by decide +kernel))
      exact ⟨a, vk_R.of (hts (Cond.stringRef "Silkloft" 137 "no such canopy") (List.mem_append_right _ (List.mem_of_getElem? (i := 842) (by decide +kernel)))) e⟩
    · obtain ⟨a, e⟩ := zq_ref (hs (Cond.exactly (Term.string "Silkloft" 66) "java/lang/String") (by decide +kernel))
      exact ⟨a, vk_R.of (hts (Cond.stringRef "Silkloft" 66 "no such packing") (List.mem_append_right _ (List.mem_of_getElem? (i := 1123) (by decide +kernel)))) e⟩
    · obtain ⟨a, e⟩ := zq_ref (hs (Cond.exactly (Term.string "Silkloft" 70) "java/lang/String") (by decide +kernel))
      exact ⟨a, vk_R.of (hts (Cond.stringRef "Silkloft" 70 "no such thing of a packing") (List.mem_append_right _ (List.mem_of_getElem? (i := 1124) (by decide +kernel)))) e⟩
    · obtain ⟨a, e⟩ := zq_ref (hs (Cond.exactly (Term.string "Silkloft" 95) "java/lang/String") (by decide +kernel))
      exact ⟨a, vk_R.of (hts (Cond.stringRef "Silkloft" 95 "no packed reserve in date") (List.mem_append_right _ (List.mem_of_getElem? (i := 1184) (by decide +kernel)))) e⟩
    · obtain ⟨a, e⟩ := zq_ref (hs (Cond.exactly (Term.string "Silkloft" 111) "java/lang/String") (by decide +kernel))
      exact ⟨a, vk_R.of (hts (Cond.stringRef "Silkloft" 111 "no canopies") (List.mem_append_right _ (List.mem_of_getElem? (i := 1156) (by decide +kernel)))) e⟩
theorem zs_arr {A : Array Value} {s : State} {ty : FieldType} (h : (Cond.arrayClass ty).before A s = true) : ∃ c, ArrOfT s c ty ∧ s.vm.findClass ("[" ++ ty.toString) = some c := by
  obtain ⟨c, k, comp, h1, h2, h3⟩ := Cond.arrayClass_spec (first := s) (o := none) (s := s) (idx := []) h
  exact ⟨c, fun n z => ⟨fun k h => (by cases h), k, h2, comp, h3⟩, h1⟩
theorem zs_arrO {A : Array Value} {s : State} {n : String} (h : (Cond.arrayOver (.object n)).before A s = true) : ∃ c, ArrOfT s c (.object n) ∧ va_RA s c (.object n) := by
  obtain ⟨comp, c, k, hcomp, hidx, hk, hkind, hname⟩ := Cond.arrayOver_spec (first := s) (o := none) (s := s) (idx := []) h
  exact ⟨c, fun n z => ⟨fun k h => (by cases h), k, hk, comp, hkind⟩, k, comp, hk, hkind, hcomp, hname⟩
set_option maxRecDepth 100000 in
set_option maxHeartbeats 4000000 in
theorem zs_K {s : State} {b : Nat} (hts : ∀ w ∈ lw_tbl, w.before #[Value.ref b] s = true) : ∃ (D : va_G) (cy : Nat → ClassId), zK D cy s := by
  have hta : ∀ w ∈ lw_all, w.before #[Value.ref b] s = true := fun w h => hts w (lw_in h)
  obtain ⟨c0, i0, k0⟩ := u_known (C := RX0) (T := TX0) (N := 5) (n := 5) hta zin0 (hts (.instantiable RX0 5) (List.mem_append_right _ (List.mem_of_getElem? (i := 51) (by decide +kernel))))
  obtain ⟨c1, i1, k1⟩ := u_known (C := RX1) (T := TX1) (N := 20) (n := 20) hta zin1 (hts (.instantiable RX1 20) (List.mem_append_right _ (List.mem_of_getElem? (i := 89) (by decide +kernel))))
  obtain ⟨c2, i2, k2⟩ := u_known (C := RX2) (T := TX2) (N := 2) (n := 2) hta zin2 (hts (.instantiable RX2 2) (List.mem_append_right _ (List.mem_of_getElem? (i := 298) (by decide +kernel))))
  obtain ⟨c3, i3, k3⟩ := u_known (C := RX3) (T := TX3) (N := 7) (n := 7) hta zin3 (hts (.instantiable RX3 7) (List.mem_append_right _ (List.mem_of_getElem? (i := 206) (by decide +kernel))))
  obtain ⟨c4, i4, k4⟩ := u_known (C := RX4) (T := TX4) (N := 4) (n := 4) hta zin4 (hts (.instantiable RX4 4) (List.mem_append_right _ (List.mem_of_getElem? (i := 180) (by decide +kernel))))
  obtain ⟨c5, i5, k5⟩ := u_known (C := RX5) (T := TX5) (N := 13) (n := 13) hta zin5 (hts (.instantiable RX5 13) (List.mem_append_right _ (List.mem_of_getElem? (i := 37) (by decide +kernel))))
  obtain ⟨c6, i6, k6⟩ := u_known (C := RX7) (T := TX7) (N := 2) (n := 2) hta zin6 (hts (.instantiable RX7 2) (List.mem_append_right _ (List.mem_of_getElem? (i := 76) (by decide +kernel))))
  obtain ⟨c7, i7, k7⟩ := u_known (C := RX9) (T := TX9) (N := 3) (n := 3) hta zin7 (hts (.instantiable RX9 3) (List.mem_append_right _ (List.mem_of_getElem? (i := 29) (by decide +kernel))))
  obtain ⟨a0, h0, g0⟩ := zs_arr (hts (Cond.arrayClass .int) (List.mem_append_right _ (List.mem_of_getElem? (i := 75) (by decide +kernel))))
  obtain ⟨a1, h1, g1⟩ := zs_arrO (hts (Cond.arrayOver (.object "Silkloft$Rigger")) (List.mem_append_right _ (List.mem_of_getElem? (i := 43) (by decide +kernel))))
  obtain ⟨a2, h2, g2⟩ := zs_arrO (hts (Cond.arrayOver (.object "Silkloft$Canopy")) (List.mem_append_right _ (List.mem_of_getElem? (i := 45) (by decide +kernel))))
  obtain ⟨a3, h3, g3⟩ := zs_arrO (hts (Cond.arrayOver (.object "Silkloft$Load")) (List.mem_append_right _ (List.mem_of_getElem? (i := 47) (by decide +kernel))))
  obtain ⟨a4, h4, g4⟩ := zs_arrO (hts (Cond.arrayOver (.object "Silkloft$Finding")) (List.mem_append_right _ (List.mem_of_getElem? (i := 49) (by decide +kernel))))
  obtain ⟨a5, h5, g5⟩ := zs_arr (hts (Cond.arrayClass .long) (List.mem_append_right _ (List.mem_of_getElem? (i := 1224) (by decide +kernel))))
  refine ⟨(fun k => match k with | 0 => c0 | 1 => c1 | 2 => c2 | 3 => c3 | 4 => c4 | 5 => c5 | 6 => c6 | _ => c7, fun k => match k with | 0 => i0 | 1 => i1 | 2 => i2 | 3 => i3 | 4 => i4 | 5 => i5 | 6 => i6 | _ => i7), fun k => match k with | 0 => a0 | 1 => a1 | 2 => a2 | 3 => a3 | 4 => a4 | _ => a5, fun k q hq => ?_, fun k q hq => ?_⟩
  · match k, hq with
    | 0, hq => cases hq; exact k0
    | 1, hq => cases hq; exact k1
    | 2, hq => cases hq; exact k2
    | 3, hq => cases hq; exact k3
    | 4, hq => cases hq; exact k4
    | 5, hq => cases hq; exact k5
    | 6, hq => cases hq; exact k6
    | 7, hq => cases hq; exact k7
    | k + 8, hq => simp [zcl] at hq
  · match k, hq with
    | 0, hq => cases hq; exact ⟨h0, g0⟩
    | 1, hq => cases hq; exact ⟨h1, g1⟩
    | 2, hq => cases hq; exact ⟨h2, g2⟩
    | 3, hq => cases hq; exact ⟨h3, g3⟩
    | 4, hq => cases hq; exact ⟨h4, g4⟩
    | 5, hq => cases hq; exact ⟨h5, g5⟩
    | k + 6, hq => simp at hq
theorem zs_P {s : State} {b : Nat} (hts : ∀ w ∈ lw_tbl, w.before #[Value.ref b] s = true) : zCP s := by
  refine ⟨⟨va_AO.of (hts (Cond.arrayOver (.object "Silkloft$Rigger")) (List.mem_append_right _ (List.mem_of_getElem? (i := 43) (by decide +kernel)))), va_AO.of (hts (Cond.arrayOver (.object "Silkloft$Canopy")) (List.mem_append_right _ (List.mem_of_getElem? (i := 45) (by decide +kernel)))), va_AO.of (hts (Cond.arrayOver (.object "Silkloft$Load")) (List.mem_append_right _ (List.mem_of_getElem? (i := 47) (by decide +kernel)))), va_AO.of (hts (Cond.arrayOver (.object "Silkloft$Finding")) (List.mem_append_right _ (List.mem_of_getElem? (i := 49) (by decide +kernel))))⟩, va_Nw.of rfl (hts (.methodLinkNest "Silkloft$Loft" 37 yX0_init "Silkloft") (List.mem_append_right _ (List.mem_of_getElem? (i := 52) (by decide +kernel)))), va_Nw.of rfl (hts (.methodLinkNest "Silkloft$Loft" 42 yX7_init "Silkloft") (List.mem_append_right _ (List.mem_of_getElem? (i := 77) (by decide +kernel)))), va_Nw.of rfl (hts (.methodLinkNest "Silkloft$Loft" 43 yX1_init "Silkloft") (List.mem_append_right _ (List.mem_of_getElem? (i := 90) (by decide +kernel)))), va_Nw.of rfl (hts (.methodLinkNest "Silkloft$Loft" 44 yX4_init "Silkloft") (List.mem_append_right _ (List.mem_of_getElem? (i := 181) (by decide +kernel)))), va_Nw.of rfl (hts (.methodLinkNest "Silkloft$Loft" 45 yX3_init "Silkloft") (List.mem_append_right _ (List.mem_of_getElem? (i := 207) (by decide +kernel)))), va_Nw.of rfl (hts (.methodLinkNest "Silkloft" 21 yX2_init "Silkloft") (List.mem_append_right _ (List.mem_of_getElem? (i := 299) (by decide +kernel))))⟩
theorem zs_N {s : State} {b : Nat} (hgv : (Jvm.Cond.and given_1 narrow_1).before #[Value.ref b] s = true) : zNc s := by
  have hs := flat_of_before _ hgv
  intro i j h1 h2 h3 h4 h5
  rcases (show i = 1 ∨ i = 2 ∨ i = 3 ∨ i = 4 by omega) with rfl | rfl | rfl | rfl <;> rcases (show j = 1 ∨ j = 2 ∨ j = 3 ∨ j = 4 by omega) with rfl | rfl | rfl | rfl
  · exact absurd rfl h5
  · exact va_Nc.of (hs (Cond.not (Cond.castable "java/lang/IndexOutOfBoundsException" "java/lang/IllegalArgumentException")) (by decide +kernel))
  · exact va_Nc.of (hs (Cond.not (Cond.castable "java/lang/IndexOutOfBoundsException" "java/lang/UnsupportedOperationException")) (by decide +kernel))
  · exact va_Nc.of (hs (Cond.not (Cond.castable "java/lang/IndexOutOfBoundsException" "java/lang/IllegalStateException")) (by decide +kernel))
  · exact va_Nc.of (hs (Cond.not (Cond.castable "java/lang/IllegalArgumentException" "java/lang/IndexOutOfBoundsException")) (by decide +kernel))
  · exact absurd rfl h5
  · exact va_Nc.of (hs (Cond.not (Cond.castable "java/lang/IllegalArgumentException" "java/lang/UnsupportedOperationException")) (by decide +kernel))
  · exact va_Nc.of (hs (Cond.not (Cond.castable "java/lang/IllegalArgumentException" "java/lang/IllegalStateException")) (by decide +kernel))
  · exact va_Nc.of (hs (Cond.not (Cond.castable "java/lang/UnsupportedOperationException" "java/lang/IndexOutOfBoundsException")) (by decide +kernel))
  · exact va_Nc.of (hs (Cond.not (Cond.castable "java/lang/UnsupportedOperationException" "java/lang/IllegalArgumentException")) (by decide +kernel))
  · exact absurd rfl h5
  · exact va_Nc.of (hs (Cond.not (Cond.castable "java/lang/UnsupportedOperationException" "java/lang/IllegalStateException")) (by decide +kernel))
  · exact va_Nc.of (hs (Cond.not (Cond.castable "java/lang/IllegalStateException" "java/lang/IndexOutOfBoundsException")) (by decide +kernel))
  · exact va_Nc.of (hs (Cond.not (Cond.castable "java/lang/IllegalStateException" "java/lang/IllegalArgumentException")) (by decide +kernel))
  · exact va_Nc.of (hs (Cond.not (Cond.castable "java/lang/IllegalStateException" "java/lang/UnsupportedOperationException")) (by decide +kernel))
  · exact absurd rfl h5
def ltm (i : Nat) : Term := Term.string "SilkloftLaw" (if i = 0 then 204 else 225)
set_option maxRecDepth 100000 in
theorem zs_T {s : State} {b : Nat} {A : Nat → Prop} (hgv : (Jvm.Cond.and given_1 narrow_1).before #[Value.ref b] s = true) (hts : ∀ w ∈ lw_tbl, w.before #[Value.ref b] s = true) (hA : ∀ a : Nat, a < s.heap.size → ¬ A a) : ∃ ak av, zSt ak av A s s.heap ∧ vk_R "SilkloftLaw" 204 "lhrcs" (ak 0) s ∧ vk_R "SilkloftLaw" 225 "opkah" (ak 1) s := by
  have hs := flat_of_before _ hgv
  obtain ⟨ak, av, h1, h2⟩ := vk_Sof (args := #[Value.ref b]) (s := s) (N := 2) (tm := ltm) (len := [5, 5]) (byt := zt5) (A := A)
    (fun i hi => by rcases (show i = 0 ∨ i = 1 by omega) with rfl | rfl <;> decide)
    (fun i hi => by rcases (show i = 0 ∨ i = 1 by omega) with rfl | rfl <;> exact hs _ (by decide +kernel))
    (fun i hi => by rcases (show i = 0 ∨ i = 1 by omega) with rfl | rfl <;> exact hs _ (by decide +kernel))
    (fun i hi => by rcases (show i = 0 ∨ i = 1 by omega) with rfl | rfl <;> exact hs _ (by decide +kernel))
    (fun i hi => by rcases (show i = 0 ∨ i = 1 by omega) with rfl | rfl <;> exact hs _ (by decide +kernel))
    (fun i hi j hj => by
      rcases (show i = 0 ∨ i = 1 by omega) with rfl | rfl <;>
      · have hj : j < 5 := hj
        rcases (show j = 0 ∨ j = 1 ∨ j = 2 ∨ j = 3 ∨ j = 4 by omega) with rfl | rfl | rfl | rfl | rfl <;> exact hs _ (by decide +kernel))
    (fun i j hi hj hij => by
      rcases (show i = 0 ∨ i = 1 by omega) with rfl | rfl <;> rcases (show j = 0 ∨ j = 1 by omega) with rfl | rfl
      · exact absurd rfl hij
      · first | exact Or.inl (hs _ (by decide +kernel)) | exact Or.inr (hs _ (by decide +kernel))
      · first | exact Or.inl (hs _ (by decide +kernel)) | exact Or.inr (hs _ (by decide +kernel))
      · exact absurd rfl hij) hA
  refine ⟨ak, av, ⟨h1, va_Zof (hts (Cond.laysStatic "java/lang/String" "COMPACT_STRINGS" "Z") (List.mem_append_right _ (List.mem_of_getElem? (i := 963) (by decide +kernel)))) (hts (Cond.initialized "java/lang/String") (List.mem_append_right _ (List.mem_of_getElem? (i := 21) (by decide +kernel)))) (va_eqt (hs (Cond.eq (Term.static "java/lang/String" "COMPACT_STRINGS" "Z") (Term.int 1)) (by decide +kernel))) hA, va_Zqof (hts (Cond.laysStatic "jdk/internal/util/Preconditions" "SIOOBE_FORMATTER" "Ljava/util/function/BiFunction;") (List.mem_append_right _ (List.mem_of_getElem? (i := 971) (by decide +kernel)))) (hts (Cond.initialized "jdk/internal/util/Preconditions") (List.mem_append_right _ (List.mem_of_getElem? (i := 23) (by decide +kernel)))) (hs (Cond.isRef (Term.static "jdk/internal/util/Preconditions" "SIOOBE_FORMATTER" "Ljava/util/function/BiFunction;")) (by decide +kernel)) hA⟩, ?_, ?_⟩
  · exact vk_R.of (hts (Cond.stringRef "SilkloftLaw" 204 "lhrcs") (List.mem_append_right _ (List.mem_of_getElem? (i := 953) (by decide +kernel)))) (h2 0 (by decide))
  · exact vk_R.of (hts (Cond.stringRef "SilkloftLaw" 225 "opkah") (List.mem_append_right _ (List.mem_of_getElem? (i := 1033) (by decide +kernel)))) (h2 1 (by decide))
