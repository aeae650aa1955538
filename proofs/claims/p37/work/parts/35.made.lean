/-! WHERE THINGS LIE -/
def adL (b n : Nat) : Nat → Nat → Nat := fun k i => match k with
  | 0 => b | 1 => n | 2 => n + 1 | 3 => n + 2 | 4 => n + 3 | 5 => n + 4 | 6 => n + 5 | 7 => n + 6 | 8 => n + 7 | 9 => n + 8
  | 10 => n + 9 + i | 11 => n + 17 + 2 * i | 12 => n + 18 + 2 * i | 13 => n + 65 + 3 * i | 14 => n + 66 + 3 * i | 15 => n + 67 + 3 * i | 16 => n + 155 + i | _ => 0
def adY (b n : Nat) : Nat → Nat → Nat := fun k _ => match k with | 20 => b | _ => n
def zS0 (f0 : Nat) : zS := (fun f _ => if f = f0 then 180 else 0, fun _ _ => 0, fun _ _ _ => 0)
theorem zar_congr {D : va_G} {a N : Nat} {cA : ClassId} {f g : Nat → Option Nat} {H : Heap} (hfg : ∀ j, j < N → f j = g j) (h : va_at D zcl (a, .inl (cA, N, .inr (.inr (.inr (.inr f))))) H) : va_at D zcl (a, .inl (cA, N, .inr (.inr (.inr (.inr g))))) H := by
  have e : (arrV cA N (fun j => va_rf (f j))) = arrV cA N (fun j => va_rf (g j)) := by
    unfold arrV
    congr 1
    exact congrArg Array.ofFn (funext fun j => by show va_rf (f j.val) = va_rf (g j.val); rw [hfg j.val j.isLt])
  show H[a]? = some (vp_cell _ _)
  have h' : H[a]? = some (vp_cell cA (N, .inr (.inr (.inr (.inr f))))) := h
  rw [vp_cell_q] at h' ⊢
  rw [h', e]
theorem zcr_in {g : Nat → Nat} {i j : Nat} (h : j < i) : zcr g i j = some (g j) := if_pos h
set_option maxRecDepth 100000 in
set_option maxHeartbeats 4000000 in
theorem zW_loft {D : va_G} {cy : Nat → ClassId} {b n : Nat} {H : Heap} (h : va_at D zcl (b, .inr (5, [.ref n, .ref (n + 1), .ref (n + 2), .ref (n + 3), .ref (n + 4), .int 0, .int 0, .int 0, .int 0, .int 0, .int 180, .long 0, .int 0])) H) (hR : zLR D cy n 8 24 30 12 H) (hB : zLB D cy n 8 24 30 12 H) : zW D cy (adL b n) zsL (zS0 510) H := by
  intro k i hk hi
  have hk : k < 17 := of_decide_eq_true hk
  rcases (show k = 0 ∨ k = 1 ∨ k = 2 ∨ k = 3 ∨ k = 4 ∨ k = 5 ∨ k = 6 ∨ k = 7 ∨ k = 8 ∨ k = 9 ∨ k = 10 ∨ k = 11 ∨ k = 12 ∨ k = 13 ∨ k = 14 ∨ k = 15 ∨ k = 16 by omega) with rfl | rfl | rfl | rfl | rfl | rfl | rfl | rfl | rfl | rfl | rfl | rfl | rfl | rfl | rfl | rfl | rfl
  · have hi : i < 1 := hi
    have e : i = 0 := by omega
    subst e
    exact h
  · exact zar_congr (fun j hj => zcr_in hj) hR.1
  · exact zar_congr (fun j hj => zcr_in hj) hR.2.1
  · exact zar_congr (fun j hj => zcr_in hj) hR.2.2.1
  · exact zar_congr (fun j hj => zcr_in hj) hR.2.2.2
  · exact hB.1.1
  · exact hB.1.2.1
  · exact hB.1.2.2.1
  · exact hB.1.2.2.2.1
  · exact hB.1.2.2.2.2
  · exact hB.2.1 i hi
  · exact (hB.2.2.1 i hi).1
  · exact (hB.2.2.1 i hi).2
  · exact (hB.2.2.2.1 i hi).1
  · exact (hB.2.2.2.1 i hi).2.1
  · exact (hB.2.2.2.1 i hi).2.2
  · exact hB.2.2.2.2 i hi
set_option maxHeartbeats 4000000 in
theorem zinj_L {b n : Nat} (hb : b < n) : zinj (adL b n) zsL := by
  intro k i k' i' hk hk' hi hi' h
  have hk : k < 17 := of_decide_eq_true hk
  have hk' : k' < 17 := of_decide_eq_true hk'
  rcases (show k = 0 ∨ k = 1 ∨ k = 2 ∨ k = 3 ∨ k = 4 ∨ k = 5 ∨ k = 6 ∨ k = 7 ∨ k = 8 ∨ k = 9 ∨ k = 10 ∨ k = 11 ∨ k = 12 ∨ k = 13 ∨ k = 14 ∨ k = 15 ∨ k = 16 by omega) with rfl | rfl | rfl | rfl | rfl | rfl | rfl | rfl | rfl | rfl | rfl | rfl | rfl | rfl | rfl | rfl | rfl <;> rcases (show k' = 0 ∨ k' = 1 ∨ k' = 2 ∨ k' = 3 ∨ k' = 4 ∨ k' = 5 ∨ k' = 6 ∨ k' = 7 ∨ k' = 8 ∨ k' = 9 ∨ k' = 10 ∨ k' = 11 ∨ k' = 12 ∨ k' = 13 ∨ k' = 14 ∨ k' = 15 ∨ k' = 16 by omega) with rfl | rfl | rfl | rfl | rfl | rfl | rfl | rfl | rfl | rfl | rfl | rfl | rfl | rfl | rfl | rfl | rfl <;> simp only [adL, zkN] at h hi hi' <;> first | (exfalso; omega) | exact ⟨rfl, by omega⟩
theorem zrg_L {b n q : Nat} (h : zrg (adL b n) zsL q) : q = b ∨ (n ≤ q ∧ q < n + 167) := by
  obtain ⟨k, i, hk, hi, rfl⟩ := h
  have hk : k < 17 := of_decide_eq_true hk
  rcases (show k = 0 ∨ k = 1 ∨ k = 2 ∨ k = 3 ∨ k = 4 ∨ k = 5 ∨ k = 6 ∨ k = 7 ∨ k = 8 ∨ k = 9 ∨ k = 10 ∨ k = 11 ∨ k = 12 ∨ k = 13 ∨ k = 14 ∨ k = 15 ∨ k = 16 by omega) with rfl | rfl | rfl | rfl | rfl | rfl | rfl | rfl | rfl | rfl | rfl | rfl | rfl | rfl | rfl | rfl | rfl <;> first | exact Or.inl rfl | exact Or.inr (by simp only [adL, zkN] at hi ⊢; omega)
theorem zW_diary {D : va_G} {cy : Nat → ClassId} {b n : Nat} {H : Heap} (h : va_at D zcl (b, .inr (2, [.int 0, .ref n])) H) (h1 : va_at D zcl (n, .inl (cy 0, 2560, .inl (fun _ => 0))) H) : zW D cy (adY b n) zsD (zS0 0) H := by
  intro k i hk hi
  rcases (of_decide_eq_true hk : k = 20 ∨ k = 21) with rfl | rfl
  · have hi : i < 1 := hi
    have e : i = 0 := by omega
    subst e
    exact h
  · exact h1
theorem zinj_Y {b n : Nat} (hb : b < n) : zinj (adY b n) zsD := by
  intro k i k' i' hk hk' hi hi' h
  rcases (of_decide_eq_true hk : k = 20 ∨ k = 21) with rfl | rfl <;> rcases (of_decide_eq_true hk' : k' = 20 ∨ k' = 21) with rfl | rfl <;> simp only [adY, zkN] at h hi hi' <;> first | (exfalso; omega) | exact ⟨rfl, by omega⟩
theorem zrg_Y {b n q : Nat} (h : zrg (adY b n) zsD q) : q = b ∨ q = n := by
  obtain ⟨k, i, hk, hi, rfl⟩ := h
  rcases (of_decide_eq_true hk : k = 20 ∨ k = 21) with rfl | rfl <;> simp only [adY, true_or, or_true]
theorem ziX9_init : zmI yX9_init RX9 cX9_init 1 := ⟨m_31, m_1, m_32, rfl, by decide, by decide, by decide +kernel, rfl⟩
set_option maxRecDepth 100000 in
set_option maxHeartbeats 4000000 in
theorem ctX9_init (l : Launch) (D : va_G) (cy : Nat → ClassId) (b n : Nat) (hbn : b < n) : Met l yX9_init (zw yX9_init cX9_init 1 none) (zrx 4 338 6482) (va_Pc [.ref b] (zBC D cy (fun H => va_at D zcl (b, .inr (7, [.null, .null, .null])) H ∧ H.size = n))) (zqM none (fun H => zSS D cy b (adL n (n + 1)) (zS0 510) (adL (n + 168) (n + 169)) (zS0 510) (adY (n + 336) (n + 337)) (zS0 0) H ∧ H.size = n + 338) (zcA b n)) 338 6482 (zcA b n) := by
  refine zmetC (by decide) rfl (Nat.le_of_ble_eq_true rfl) rfl (fun p e s m below meth c ls X hml hr hlocks hinit hv hl => ?_)
  obtain ⟨hK, hP, hat, hsz⟩ := hv
  obtain ⟨hx, hb, -, -⟩ := id X
  have hS : va_S (zcA b n) s.heap s.heap [] := va_S.rf
  refine lv_aload_n hx hb dX9_init_0 rfl (lv_at hl 0 rfl) ?_
  refine zkObj X hml hl.1 m_33 m_34 m_35 dX9_init_1 ⟨(Nat.le_of_ble_eq_true rfl), (Nat.le_of_ble_eq_true rfl)⟩ (Nat.le_of_ble_eq_true rfl) ?_
  refine lv_aload_n hx hb dX9_init_4 rfl (lv_at hl 0 rfl) ?_
  refine zkNO (h := n) (ci := 5) (fs := [.null, .null, .null, .null, .null, .int 0, .int 0, .int 0, .int 0, .int 0, .int 0, .long 0, .int 0]) X hK rfl zin5 tyX5 tyX5_ok m_36 m_37 m_2 (by decide) ⟨(Nat.le_of_ble_eq_true rfl), (Nat.le_of_ble_eq_true rfl)⟩ hsz hS dX9_init_5 (fun H hn0 hz1 ho1 hS => ?_)
  replace hat := va_at.kept hat (ho1 b (by omega))
  refine lv_dup hx hb dX9_init_8 rfl ?_
  refine zcallC (rest := [.ref (n), .ref b]) X hml hK hP ⟨hn0, hz1⟩ (ctX5_init l D cy (n) (n + 1) (by omega)) ziX5_init (by decide) m_38 ⟨(Nat.le_of_ble_eq_true rfl), (Nat.le_of_ble_eq_true rfl)⟩ ⟨(Nat.le_of_ble_eq_true rfl), (Nat.le_of_ble_eq_true rfl)⟩ hl.1 (Nat.le_of_ble_eq_true rfl) dX9_init_9 hS (fun q hq => hq.elim (fun h => Or.inr (by omega)) (fun h => Or.inr (by omega))) (fun H locs hG hsz2 ho hS => ?_)
  replace hat := va_at.kept hat (ho b (by omega) (fun z => z.elim (fun h => by omega) (fun h => by omega)))
  obtain ⟨⟨hg1, hg2, hg3⟩, hsz⟩ := hG
  have hL1 := zW_loft hg1 hg2 hg3
  refine zkPF X hinit hK hat hS (Or.inl rfl) rfl zin7 tyX9 tyX9_ok nmX9 0 (by decide) rfl rfl rfl m_311 rfl (ty := .object "Silkloft$Loft") (by decide +kernel) rfl rfl (Nat.le_of_ble_eq_true rfl) dX9_init_12 (fun H locs hat hz2 ho hS => ?_)
  replace hL1 := zW.kept hL1 (fun q hq => ho q (by have := zrg_L hq; omega))
  replace hsz : H.size = n + 168 := by omega
  refine lv_aload_n hx hb dX9_init_15 rfl (lv_at hl 0 rfl) ?_
  refine zkNO (h := n + 168) (ci := 5) (fs := [.null, .null, .null, .null, .null, .int 0, .int 0, .int 0, .int 0, .int 0, .int 0, .long 0, .int 0]) X hK rfl zin5 tyX5 tyX5_ok m_36 m_37 m_2 (by decide) ⟨(Nat.le_of_ble_eq_true rfl), (Nat.le_of_ble_eq_true rfl)⟩ hsz hS dX9_init_16 (fun H hn0 hz1 ho1 hS => ?_)
  replace hat := va_at.kept hat (ho1 b (by omega))
  replace hL1 := zW.kept hL1 (fun q hq => ho1 q (by have := zrg_L hq; omega))
  refine lv_dup hx hb dX9_init_19 rfl ?_
  refine zcallC (rest := [.ref (n + 168), .ref b]) X hml hK hP ⟨hn0, hz1⟩ (ctX5_init l D cy (n + 168) (n + 169) (by omega)) ziX5_init (by decide) m_38 ⟨(Nat.le_of_ble_eq_true rfl), (Nat.le_of_ble_eq_true rfl)⟩ ⟨(Nat.le_of_ble_eq_true rfl), (Nat.le_of_ble_eq_true rfl)⟩ hl.1 (Nat.le_of_ble_eq_true rfl) dX9_init_20 hS (fun q hq => hq.elim (fun h => Or.inr (by omega)) (fun h => Or.inr (by omega))) (fun H locs hG hsz2 ho hS => ?_)
  replace hat := va_at.kept hat (ho b (by omega) (fun z => z.elim (fun h => by omega) (fun h => by omega)))
  replace hL1 := zW.kept hL1 (fun q hq => ho q (by have := zrg_L hq; omega) (fun z => by have := zrg_L hq; exact z.elim (fun h => by omega) (fun h => by omega)))
  obtain ⟨⟨hg1, hg2, hg3⟩, hsz⟩ := hG
  have hL2 := zW_loft hg1 hg2 hg3
  refine zkPF X hinit hK hat hS (Or.inl rfl) rfl zin7 tyX9 tyX9_ok nmX9 1 (by decide) rfl rfl rfl m_312 rfl (ty := .object "Silkloft$Loft") (by decide +kernel) rfl rfl (Nat.le_of_ble_eq_true rfl) dX9_init_23 (fun H locs hat hz2 ho hS => ?_)
  replace hL1 := zW.kept hL1 (fun q hq => ho q (by have := zrg_L hq; omega))
  replace hL2 := zW.kept hL2 (fun q hq => ho q (by have := zrg_L hq; omega))
  replace hsz : H.size = n + 336 := by omega
  refine lv_aload_n hx hb dX9_init_26 rfl (lv_at hl 0 rfl) ?_
  refine zkNO (h := n + 336) (ci := 2) (fs := [.int 0, .null]) X hK rfl zin2 tyX2 tyX2_ok m_297 m_298 m_8 (by decide) ⟨(Nat.le_of_ble_eq_true rfl), (Nat.le_of_ble_eq_true rfl)⟩ hsz hS dX9_init_27 (fun H hn0 hz1 ho1 hS => ?_)
  replace hat := va_at.kept hat (ho1 b (by omega))
  replace hL1 := zW.kept hL1 (fun q hq => ho1 q (by have := zrg_L hq; omega))
  replace hL2 := zW.kept hL2 (fun q hq => ho1 q (by have := zrg_L hq; omega))
  refine lv_dup hx hb dX9_init_30 rfl ?_
  refine zcallCN (rest := [.ref (n + 336), .ref b]) X hml hK hP ⟨hn0, hz1⟩ (ctX2_init l D cy (n + 336) (n + 337) (by omega)) ziX2_init (by decide) hP.2.2.2.2.2.2 ⟨(Nat.le_of_ble_eq_true rfl), (Nat.le_of_ble_eq_true rfl)⟩ ⟨(Nat.le_of_ble_eq_true rfl), (Nat.le_of_ble_eq_true rfl)⟩ hl.1 (Nat.le_of_ble_eq_true rfl) dX9_init_31 hS (fun q hq => hq.elim (fun h => Or.inr (by omega)) (fun h => Or.inr (by omega))) (fun H locs hG hsz2 ho hS => ?_)
  replace hat := va_at.kept hat (ho b (by omega) (fun z => z.elim (fun h => by omega) (fun h => by omega)))
  replace hL1 := zW.kept hL1 (fun q hq => ho q (by have := zrg_L hq; omega) (fun z => by have := zrg_L hq; exact z.elim (fun h => by omega) (fun h => by omega)))
  replace hL2 := zW.kept hL2 (fun q hq => ho q (by have := zrg_L hq; omega) (fun z => by have := zrg_L hq; exact z.elim (fun h => by omega) (fun h => by omega)))
  obtain ⟨hg1, hg2, hsz⟩ := hG
  have hDy := zW_diary hg1 hg2
  refine zkPF X hinit hK hat hS (Or.inl rfl) rfl zin7 tyX9 tyX9_ok nmX9 2 (by decide) rfl rfl rfl m_313 rfl (ty := .object "Silkloft$Diary") (by decide +kernel) rfl rfl (Nat.le_of_ble_eq_true rfl) dX9_init_34 (fun H locs hat hz2 ho hS => ?_)
  replace hL1 := zW.kept hL1 (fun q hq => ho q (by have := zrg_L hq; omega))
  replace hL2 := zW.kept hL2 (fun q hq => ho q (by have := zrg_L hq; omega))
  replace hDy := zW.kept hDy (fun q hq => ho q (by have := zrg_Y hq; omega))
  replace hsz : H.size = n + 338 := by omega
  exact zkE X hr hlocks ⟨⟨hat, hL1, hL2, hDy⟩, hsz⟩ hS (Nat.le_of_ble_eq_true rfl) (Nat.le_of_ble_eq_true rfl) dX9_init_37
def fsM (n k : Nat) : List Value := (List.range 48).map (fun j => if j < 38 then (if j < k then .ref (n + j) else .null) else if j = 47 then .long 0 else .int 0)
def fsM0 : List Value := (List.range 48).map (fun j => if j < 38 then .null else if j = 47 then .long 0 else .int 0)
theorem fsM_0 (n : Nat) : fsM0 = fsM n 0 := by simp [fsM, fsM0]
theorem fsM_set {n k : Nat} (hk : k < 38) : (fsM n k).set k (.ref (n + k)) = fsM n (k + 1) := by
  refine List.ext_getElem? fun j => ?_
  unfold fsM
  rw [List.getElem?_set, List.length_map, List.length_range, List.getElem?_map, List.getElem?_map]
  by_cases h : k = j
  · subst h
    rw [if_pos rfl, if_pos (by omega), List.getElem?_range (by omega)]
    simp [hk]
  · rw [if_neg h]
    by_cases hj : j < 48
    · rw [List.getElem?_range hj]
      by_cases h38 : j < 38
      · by_cases hjk : j < k
        · simp [h38, hjk, Nat.lt_succ_of_lt hjk]
        · have h2 : ¬ j < k + 1 := by omega
          simp [h38, hjk, h2]
      · simp [h38]
    · rw [List.getElem?_eq_none (by simp; omega)]
      rfl
theorem fsM_len (n k : Nat) : (fsM n k).length = 48 := by simp [fsM]
/-- the model's first k rows -/
def zMA (D : va_G) (cy : Nat → ClassId) (n k : Nat) (H : Heap) : Prop := ∀ j, j < k → va_at D zcl (n + j, .inl (cy 0, zkL (31 + j), .inl (fun _ => 0))) H
theorem zMA.step {D : va_G} {cy : Nat → ClassId} {n k N : Nat} {H H1 : Heap} (h : zMA D cy n k H) (hN : zkL (31 + k) = N) (o : ∀ q, q < n + k → H1[q]? = H[q]?) (hn : va_at D zcl (n + k, .inl (cy 0, N, .inl (fun _ => 0))) H1) : zMA D cy n (k + 1) H1 := by
  subst hN
  intro j hj
  rcases Nat.lt_succ_iff_lt_or_eq.mp hj with h1 | rfl
  · exact va_at.kept (h j h1) (o (n + j) (by omega))
  · exact hn
theorem zMA.kept {D : va_G} {cy : Nat → ClassId} {n k : Nat} {H H1 : Heap} (h : zMA D cy n k H) (o : ∀ q, n ≤ q → H1[q]? = H[q]?) : zMA D cy n k H1 := fun j hj => va_at.kept (h j hj) (o (n + j) (by show n ≤ n + j; omega))
section ZIM
variable {p : Program} {l : Launch} {e : Env} {s : State} {m : MethodId} {below : List Frame} {meth : Method} {c : Code} {D : va_G} {cy : Nat → ClassId} {b n : Nat}
end ZIM