/-! AT THE LAW'S ENTRY: the statics, the strings, the tables -/
theorem zq_ref {A : Array Value} {s : State} {t : Term} {C : String} (h : (Cond.exactly t C).before A s = true) : ∃ a, t.eval A s none [] s = some (.ref a) := by
  obtain ⟨a, c, cell, k, h1, -⟩ := Cond.exactly_spec (first := s) (o := none) (s := s) (idx := []) h
  exact ⟨a, h1⟩
theorem zq_ne {A : Array Value} {s : State} {t1 t2 : Term} {a1 a2 : Nat} (h : (Cond.not (Cond.eq t1 t2)).before A s = true) (h1 : t1.eval A s none [] s = some (.ref a1)) (h2 : t2.eval A s none [] s = some (.ref a2)) : a1 ≠ a2 := by
  intro e
  subst e
  simp [Cond.before, Cond.holds, Cond.value, h1, h2] at h
theorem zs_E {s : State} {b : Nat} {A : Nat → Prop} (hgv : (Jvm.Cond.and given_1 narrow_1).before #[Value.ref b] s = true) (hts : ∀ w ∈ lw_tbl, w.before #[Value.ref b] s = true) (hA : ∀ a : Nat, a < s.heap.size → ¬ A a) : ∃ rf, zE rf A s s.heap := by
  have hs := flat_of_before _ hgv
  obtain ⟨r0, e0⟩ := zq_ref (hs (Cond.exactly (Term.static "Silkloft$Refusal" "NONE" "LSilkloft$Refusal;") "Silkloft$Refusal") (by decide +kernel))
  obtain ⟨r1, e1⟩ := zq_ref (hs (Cond.exactly (Term.static "Silkloft$Refusal" "INDEX" "LSilkloft$Refusal;") "Silkloft$Refusal") (by decide +kernel))
  obtain ⟨r2, e2⟩ := zq_ref (hs (Cond.exactly (Term.static "Silkloft$Refusal" "ARGUMENT" "LSilkloft$Refusal;") "Silkloft$Refusal") (by decide +kernel))
  obtain ⟨r3, e3⟩ := zq_ref (hs (Cond.exactly (Term.static "Silkloft$Refusal" "UNSUPPORTED" "LSilkloft$Refusal;") "Silkloft$Refusal") (by decide +kernel))
  obtain ⟨r4, e4⟩ := zq_ref (hs (Cond.exactly (Term.static "Silkloft$Refusal" "STATE" "LSilkloft$Refusal;") "Silkloft$Refusal") (by decide +kernel))
  have n01 : r0 ≠ r1 := zq_ne (hs (Cond.not (Cond.eq (Term.static "Silkloft$Refusal" "NONE" "LSilkloft$Refusal;") (Term.static "Silkloft$Refusal" "INDEX" "LSilkloft$Refusal;"))) (by decide +kernel)) e0 e1
  have n03 : r0 ≠ r3 := zq_ne (hs (Cond.not (Cond.eq (Term.static "Silkloft$Refusal" "NONE" "LSilkloft$Refusal;") (Term.static "Silkloft$Refusal" "UNSUPPORTED" "LSilkloft$Refusal;"))) (by decide +kernel)) e0 e3
  have n04 : r0 ≠ r4 := zq_ne (hs (Cond.not (Cond.eq (Term.static "Silkloft$Refusal" "NONE" "LSilkloft$Refusal;") (Term.static "Silkloft$Refusal" "STATE" "LSilkloft$Refusal;"))) (by decide +kernel)) e0 e4
  have n13 : r1 ≠ r3 := zq_ne (hs (Cond.not (Cond.eq (Term.static "Silkloft$Refusal" "INDEX" "LSilkloft$Refusal;") (Term.static "Silkloft$Refusal" "UNSUPPORTED" "LSilkloft$Refusal;"))) (by decide +kernel)) e1 e3
  have n20 : r2 ≠ r0 := zq_ne (hs (Cond.not (Cond.eq (Term.static "Silkloft$Refusal" "ARGUMENT" "LSilkloft$Refusal;") (Term.static "Silkloft$Refusal" "NONE" "LSilkloft$Refusal;"))) (by decide +kernel)) e2 e0
  have n21 : r2 ≠ r1 := zq_ne (hs (Cond.not (Cond.eq (Term.static "Silkloft$Refusal" "ARGUMENT" "LSilkloft$Refusal;") (Term.static "Silkloft$Refusal" "INDEX" "LSilkloft$Refusal;"))) (by decide +kernel)) e2 e1
  have n23 : r2 ≠ r3 := zq_ne (hs (Cond.not (Cond.eq (Term.static "Silkloft$Refusal" "ARGUMENT" "LSilkloft$Refusal;") (Term.static "Silkloft$Refusal" "UNSUPPORTED" "LSilkloft$Refusal;"))) (by decide +kernel)) e2 e3
  have n24 : r2 ≠ r4 := zq_ne (hs (Cond.not (Cond.eq (Term.static "Silkloft$Refusal" "ARGUMENT" "LSilkloft$Refusal;") (Term.static "Silkloft$Refusal" "STATE" "LSilkloft$Refusal;"))) (by decide +kernel)) e2 e4
  have n41 : r4 ≠ r1 := zq_ne (hs (Cond.not (Cond.eq (Term.static "Silkloft$Refusal" "STATE" "LSilkloft$Refusal;") (Term.static "Silkloft$Refusal" "INDEX" "LSilkloft$Refusal;"))) (by decide +kernel)) e4 e1
  have n43 : r4 ≠ r3 := zq_ne (hs (Cond.not (Cond.eq (Term.static "Silkloft$Refusal" "STATE" "LSilkloft$Refusal;") (Term.static "Silkloft$Refusal" "UNSUPPORTED" "LSilkloft$Refusal;"))) (by decide +kernel)) e4 e3
  refine ⟨fun k => match k with | 0 => r0 | 1 => r1 | 2 => r2 | 3 => r3 | _ => r4, fun k hk => ?_, fun i j hi hj h => ?_, ?_, ?_, fun q hq => ?_⟩
  · rcases (show k = 0 ∨ k = 1 ∨ k = 2 ∨ k = 3 ∨ k = 4 by omega) with rfl | rfl | rfl | rfl | rfl
    · exact va_Zref (hts (Cond.laysStatic "Silkloft$Refusal" "NONE" "LSilkloft$Refusal;") (List.mem_append_right _ (List.mem_of_getElem? (i := 357) (by decide +kernel)))) (hts (Cond.initialized "Silkloft$Refusal") (lw_in m_12)) e0 hA
    · exact va_Zref (hts (Cond.laysStatic "Silkloft$Refusal" "INDEX" "LSilkloft$Refusal;") (List.mem_append_right _ (List.mem_of_getElem? (i := 368) (by decide +kernel)))) (hts (Cond.initialized "Silkloft$Refusal") (lw_in m_12)) e1 hA
    · exact va_Zref (hts (Cond.laysStatic "Silkloft$Refusal" "ARGUMENT" "LSilkloft$Refusal;") (List.mem_append_right _ (List.mem_of_getElem? (i := 355) (by decide +kernel)))) (hts (Cond.initialized "Silkloft$Refusal") (lw_in m_12)) e2 hA
    · exact va_Zref (hts (Cond.laysStatic "Silkloft$Refusal" "UNSUPPORTED" "LSilkloft$Refusal;") (List.mem_append_right _ (List.mem_of_getElem? (i := 383) (by decide +kernel)))) (hts (Cond.initialized "Silkloft$Refusal") (lw_in m_12)) e3 hA
    · exact va_Zref (hts (Cond.laysStatic "Silkloft$Refusal" "STATE" "LSilkloft$Refusal;") (List.mem_append_right _ (List.mem_of_getElem? (i := 359) (by decide +kernel)))) (hts (Cond.initialized "Silkloft$Refusal") (lw_in m_12)) e4 hA
  · rcases (show i = 0 ∨ i = 1 ∨ i = 2 ∨ i = 3 ∨ i = 4 by omega) with rfl | rfl | rfl | rfl | rfl <;> rcases (show j = 0 ∨ j = 1 ∨ j = 2 ∨ j = 3 ∨ j = 4 by omega) with rfl | rfl | rfl | rfl | rfl
    · rfl
    · exact absurd h n01
    · exact absurd h.symm n20
    · exact absurd h n03
    · exact absurd h n04
    · exact absurd h.symm n01
    · rfl
    · exact absurd h.symm n21
    · exact absurd h n13
    · exact absurd h.symm n41
    · exact absurd h n20
    · exact absurd h n21
    · rfl
    · exact absurd h n23
    · exact absurd h n24
    · exact absurd h.symm n03
    · exact absurd h.symm n13
    · exact absurd h.symm n23
    · rfl
    · exact absurd h.symm n43
    · exact absurd h.symm n04
    · exact absurd h n41
    · exact absurd h.symm n24
    · exact absurd h n43
    · rfl
  · exact vx_Zqof (hts (Cond.laysStatic "java/lang/Throwable" "UNASSIGNED_STACK" "[Ljava/lang/StackTraceElement;") (List.mem_append_right _ (List.mem_of_getElem? (i := 687) (by decide +kernel)))) (hts (Cond.initialized "java/lang/Throwable") (lw_in m_13)) (hs (Cond.isRef (Term.static "java/lang/Throwable" "UNASSIGNED_STACK" "[Ljava/lang/StackTraceElement;")) (by decide +kernel)) hA
  · exact vx_Zqof (hts (Cond.laysStatic "java/lang/Throwable" "SUPPRESSED_SENTINEL" "Ljava/util/List;") (List.mem_append_right _ (List.mem_of_getElem? (i := 689) (by decide +kernel)))) (hts (Cond.initialized "java/lang/Throwable") (lw_in m_13)) (hs (Cond.isRef (Term.static "java/lang/Throwable" "SUPPRESSED_SENTINEL" "Ljava/util/List;")) (by decide +kernel)) hA
  · simp only [zstr, List.mem_cons, List.not_mem_nil, or_false] at hq
    rcases hq with rfl | rfl | rfl | rfl | rfl | rfl | rfl | rfl | rfl | rfl
    · obtain ⟨a, e⟩ := zq_ref (hs (Cond.exactly (Term.string "Silkloft" 170) "java/lang/String") (by decide +kernel))
      exact ⟨a, vk_R.of (hts (Cond.stringRef "Silkloft" 170 "there is no such one") (List.mem_append_right _ (List.mem_of_getElem? (i := 705) (by decide +kernel)))) e⟩
    · obtain ⟨a, e⟩ := zq_ref (hs (Cond.exactly (Term.string "Silkloft" 175) "java/lang/String") (by decide +kernel))
      exact ⟨a, vk_R.of (hts (Cond.stringRef "Silkloft" 175 "an argument does not do") (List.mem_append_right _ (List.mem_of_getElem? (i := 742) (by decide +kernel)))) e⟩
    · obtain ⟨a, e⟩ := zq_ref (hs (Cond.exactly (Term.string "Silkloft" 182) "java/lang/String") (by decide +kernel))
      exact ⟨a, vk_R.of (hts (Cond.stringRef "Silkloft" 182 "as things are, this can't be done") (List.mem_append_right _ (List.mem_of_getElem? (i := 759) (by decide +kernel)))) e⟩
    · obtain ⟨a, e⟩ := zq_ref (hs (Cond.exactly (Term.string "Silkloft" 190) "java/lang/String") (by decide +kernel))
      exact ⟨a, vk_R.of (hts (Cond.stringRef "Silkloft" 190 "there is no room for more") (List.mem_append_right _ (List.mem_of_getElem? (i := 776) (by decide +kernel)))) e⟩
    · obtain ⟨a, e⟩ := zq_ref (hs (Cond.exactly (Term.string "Silkloft" 36) "java/lang/String") (by decide +kernel))
      exact ⟨a, vk_R.of (hts (Cond.stringRef "Silkloft" 36 "no such finding") (List.mem_append_right _ (List.mem_of_getElem? (i := 928) (by decide +kernel)))) e⟩
    · obtain ⟨a, e⟩ := zq_ref (hs (Cond.exactly (Term.string "Silkloft" 137) "java/lang/String") (by decide +kernel))
      exact ⟨a, vk_R.of (hts (Cond.stringRef "Silkloft" 137 "no such canopy") (List.mem_append_right _ (List.mem_of_getElem? (i := 973) (by decide +kernel)))) e⟩
    · obtain ⟨a, e⟩ := zq_ref (hs (Cond.exactly (Term.string "Silkloft" 66) "java/lang/String") (by decide +kernel))
      exact ⟨a, vk_R.of (hts (Cond.stringRef "Silkloft" 66 "no such packing") (List.mem_append_right _ (List.mem_of_getElem? (i := 1004) (by decide +kernel)))) e⟩
    · obtain ⟨a, e⟩ := zq_ref (hs (Cond.exactly (Term.string "Silkloft" 70) "java/lang/String") (by decide +kernel))
      exact ⟨a, vk_R.of (hts (Cond.stringRef "Silkloft" 70 "no such thing of a packing") (List.mem_append_right _ (List.mem_of_getElem? (i := 1005) (by decide +kernel)))) e⟩
    · obtain ⟨a, e⟩ := zq_ref (hs (Cond.exactly (Term.string "Silkloft" 95) "java/lang/String") (by decide +kernel))
      exact ⟨a, vk_R.of (hts (Cond.stringRef "Silkloft" 95 "no packed reserve in date") (List.mem_append_right _ (List.mem_of_getElem? (i := 1054) (by decide +kernel)))) e⟩
    · obtain ⟨a, e⟩ := zq_ref (hs (Cond.exactly (Term.string "Silkloft" 111) "java/lang/String") (by decide +kernel))
      exact ⟨a, vk_R.of (hts (Cond.stringRef "Silkloft" 111 "no canopies") (List.mem_append_right _ (List.mem_of_getElem? (i := 1083) (by decide +kernel)))) e⟩
