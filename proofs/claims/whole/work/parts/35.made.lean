/-! WHERE THINGS LIE -/
def adL (b n : Nat) : Nat → Nat → Nat := fun k i => match k with
  | 0 => b | 1 => n | 2 => n + 1 | 3 => n + 2 | 4 => n + 3 | 5 => n + 4 | 6 => n + 5 | 7 => n + 6 | 8 => n + 7 | 9 => n + 8
  | 10 => n + 9 + i | 11 => n + 17 + 2 * i | 12 => n + 18 + 2 * i | 13 => n + 65 + 3 * i | 14 => n + 66 + 3 * i | 15 => n + 67 + 3 * i | 16 => n + 155 + i | _ => 0
def adY (b n : Nat) : Nat → Nat → Nat := fun k _ => match k with | 20 => b | _ => n
def adM (b n : Nat) : Nat → Nat → Nat := fun k _ => match k with | 30 => b | k => n + (k - 31)
def zS0 (f0 : Nat) : zS := (fun f _ => if f = f0 then 180 else 0, fun _ _ => 0, fun _ _ _ => 0)
theorem zar_congr {D : va_G} {a N : Nat} {cA : ClassId} {f g : Nat → Option Nat} {H : Heap} (hfg : ∀ j, j < N → f j = g j) (h : va_at D zcl (a, .inl (cA, N, .inr (.inr (.inr (.inr f))))) H) : va_at D zcl (a, .inl (cA, N, .inr (.inr (.inr (.inr g))))) H := by
  have e : (arrV cA N (fun j => va_rf (f j))) = arrV cA N (fun j => va_rf (g j)) := by
    unfold arrV
    congr 1
    exact congrArg Array.ofFn (funext fun j => by show va_rf (f j.val) = va_rf (g j.val); rw [hfg j.val j.isLt])
  show H[a]? = some (vp_cell _ _)
  have h' : H[a]? = some (vp_cell cA (N, .inr (.inr (.inr (.inr f))))) := h
  rw [vp_cell_q] at h' ⊢
  rw [h', e]
theorem zcr_in {g : Nat → Nat} {i j : Nat} (h : j < i) : zcr g i j = some (g j) := if_pos h
set_option maxRecDepth 100000 in
set_option maxHeartbeats 4000000 in
theorem zW_loft {D : va_G} {cy : Nat → ClassId} {b n : Nat} {H : Heap} (h : va_at D zcl (b, .inr (5, [.ref n, .ref (n + 1), .ref (n + 2), .ref (n + 3), .ref (n + 4), .int 0, .int 0, .int 0, .int 0, .int 0, .int 180, .long 0, .int 0])) H) (hR : zLR D cy n 8 24 30 12 H) (hB : zLB D cy n 8 24 30 12 H) : zW D cy (adL b n) zsL (zS0 510) H := by
  intro k i hk hi
  have hk : k < 17 := of_decide_eq_true hk
  rcases (show k = 0 ∨ k = 1 ∨ k = 2 ∨ k = 3 ∨ k = 4 ∨ k = 5 ∨ k = 6 ∨ k = 7 ∨ k = 8 ∨ k = 9 ∨ k = 10 ∨ k = 11 ∨ k = 12 ∨ k = 13 ∨ k = 14 ∨ k = 15 ∨ k = 16 by omega) with rfl | rfl | rfl | rfl | rfl | rfl | rfl | rfl | rfl | rfl | rfl | rfl | rfl | rfl | rfl | rfl | rfl
  · have hi : i < 1 := hi
    have e : i = 0 := by omega
    subst e
    exact h
  · exact zar_congr (fun j hj => zcr_in hj) hR.1
  · exact zar_congr (fun j hj => zcr_in hj) hR.2.1
  · exact zar_congr (fun j hj => zcr_in hj) hR.2.2.1
  · exact zar_congr (fun j hj => zcr_in hj) hR.2.2.2
  · exact hB.1.1
  · exact hB.1.2.1
  · exact hB.1.2.2.1
  · exact hB.1.2.2.2.1
  · exact hB.1.2.2.2.2
  · exact hB.2.1 i hi
  · exact (hB.2.2.1 i hi).1
  · exact (hB.2.2.1 i hi).2
  · exact (hB.2.2.2.1 i hi).1
  · exact (hB.2.2.2.1 i hi).2.1
  · exact (hB.2.2.2.1 i hi).2.2
  · exact hB.2.2.2.2 i hi
set_option maxHeartbeats 4000000 in
theorem zinj_L {b n : Nat} (hb : b < n) : zinj (adL b n) zsL := by
  intro k i k' i' hk hk' hi hi' h
  have hk : k < 17 := of_decide_eq_true hk
  have hk' : k' < 17 := of_decide_eq_true hk'
  rcases (show k = 0 ∨ k = 1 ∨ k = 2 ∨ k = 3 ∨ k = 4 ∨ k = 5 ∨ k = 6 ∨ k = 7 ∨ k = 8 ∨ k = 9 ∨ k = 10 ∨ k = 11 ∨ k = 12 ∨ k = 13 ∨ k = 14 ∨ k = 15 ∨ k = 16 by omega) with rfl | rfl | rfl | rfl | rfl | rfl | rfl | rfl | rfl | rfl | rfl | rfl | rfl | rfl | rfl | rfl | rfl <;> rcases (show k' = 0 ∨ k' = 1 ∨ k' = 2 ∨ k' = 3 ∨ k' = 4 ∨ k' = 5 ∨ k' = 6 ∨ k' = 7 ∨ k' = 8 ∨ k' = 9 ∨ k' = 10 ∨ k' = 11 ∨ k' = 12 ∨ k' = 13 ∨ k' = 14 ∨ k' = 15 ∨ k' = 16 by omega) with rfl | rfl | rfl | rfl | rfl | rfl | rfl | rfl | rfl | rfl | rfl | rfl | rfl | rfl | rfl | rfl | rfl <;> simp only [adL, zkN] at h hi hi' <;> first | (exfalso; omega) | exact ⟨rfl, by omega⟩
theorem zrg_L {b n q : Nat} (h : zrg (adL b n) zsL q) : q = b ∨ (n ≤ q ∧ q < n + 167) := by
  obtain ⟨k, i, hk, hi, rfl⟩ := h
  have hk : k < 17 := of_decide_eq_true hk
  rcases (show k = 0 ∨ k = 1 ∨ k = 2 ∨ k = 3 ∨ k = 4 ∨ k = 5 ∨ k = 6 ∨ k = 7 ∨ k = 8 ∨ k = 9 ∨ k = 10 ∨ k = 11 ∨ k = 12 ∨ k = 13 ∨ k = 14 ∨ k = 15 ∨ k = 16 by omega) with rfl | rfl | rfl | rfl | rfl | rfl | rfl | rfl | rfl | rfl | rfl | rfl | rfl | rfl | rfl | rfl | rfl <;> first | exact Or.inl rfl | exact Or.inr (by simp only [adL, zkN] at hi ⊢; omega)
theorem zW_diary {D : va_G} {cy : Nat → ClassId} {b n : Nat} {H : Heap} (h : va_at D zcl (b, .inr (2, [.int 0, .ref n])) H) (h1 : va_at D zcl (n, .inl (cy 0, 2560, .inl (fun _ => 0))) H) : zW D cy (adY b n) zsD (zS0 0) H := by
  intro k i hk hi
  rcases (of_decide_eq_true hk : k = 20 ∨ k = 21) with rfl | rfl
  · have hi : i < 1 := hi
    have e : i = 0 := by omega
    subst e
    exact h
  · exact h1
theorem zinj_Y {b n : Nat} (hb : b < n) : zinj (adY b n) zsD := by
  intro k i k' i' hk hk' hi hi' h
  rcases (of_decide_eq_true hk : k = 20 ∨ k = 21) with rfl | rfl <;> rcases (of_decide_eq_true hk' : k' = 20 ∨ k' = 21) with rfl | rfl <;> simp only [adY, zkN] at h hi hi' <;> first | (exfalso; omega) | exact ⟨rfl, by omega⟩
theorem zrg_Y {b n q : Nat} (h : zrg (adY b n) zsD q) : q = b ∨ q = n := by
  obtain ⟨k, i, hk, hi, rfl⟩ := h
  rcases (of_decide_eq_true hk : k = 20 ∨ k = 21) with rfl | rfl <;> simp only [adY, true_or, or_true]
theorem ziX9_init : zmI yX9_init RX9 cX9_init 1 := ⟨m_28, m_1, m_29, rfl, by decide, by decide, by decide +kernel, rfl⟩
set_option maxRecDepth 100000 in
set_option maxHeartbeats 4000000 in
theorem ctX9_init (l : Launch) (D : va_G) (cy : Nat → ClassId) (b n : Nat) (hbn : b < n) : Met l yX9_init (zw yX9_init cX9_init 1 none) (zrx 4 338 6482) (va_Pc [.ref b] (zBC D cy (fun H => va_at D zcl (b, .inr (7, [.null, .null, .null])) H ∧ H.size = n))) (zqM none (fun H => zSS D cy b (adL n (n + 1)) (zS0 510) (adL (n + 168) (n + 169)) (zS0 510) (adY (n + 336) (n + 337)) (zS0 0) H ∧ H.size = n + 338) (zcA b n)) 338 6482 (zcA b n) := by
  refine zmetC (by decide) rfl (Nat.le_of_ble_eq_true rfl) rfl (fun p e s m below meth c ls X hml hr hlocks hinit hv hl => ?_)
  obtain ⟨hK, hP, hat, hsz⟩ := hv
  obtain ⟨hx, hb, -, -⟩ := id X
  have hS : va_S (zcA b n) s.heap s.heap [] := va_S.rf
  refine lv_aload_n hx hb dX9_init_0 rfl (lv_at hl 0 rfl) ?_
  refine zkObj X hml hl.1 m_30 m_31 m_32 dX9_init_1 ⟨(Nat.le_of_ble_eq_true rfl), (Nat.le_of_ble_eq_true rfl)⟩ (Nat.le_of_ble_eq_true rfl) ?_
  refine lv_aload_n hx hb dX9_init_4 rfl (lv_at hl 0 rfl) ?_
  refine zkNO (h := n) (ci := 5) (fs := [.null, .null, .null, .null, .null, .int 0, .int 0, .int 0, .int 0, .int 0, .int 0, .long 0, .int 0]) X hK rfl zin5 tyX5 tyX5_ok m_33 m_34 m_2 (by decide) ⟨(Nat.le_of_ble_eq_true rfl), (Nat.le_of_ble_eq_true rfl)⟩ hsz hS dX9_init_5 (fun H hn0 hz1 ho1 hS => ?_)
  replace hat := va_at.kept hat (ho1 b (by omega))
  refine lv_dup hx hb dX9_init_8 rfl ?_
  refine zcallC (rest := [.ref (n), .ref b]) X hml hK hP ⟨hn0, hz1⟩ (ctX5_init l D cy (n) (n + 1) (by omega)) ziX5_init (by decide) m_35 ⟨(Nat.le_of_ble_eq_true rfl), (Nat.le_of_ble_eq_true rfl)⟩ ⟨(Nat.le_of_ble_eq_true rfl), (Nat.le_of_ble_eq_true rfl)⟩ hl.1 (Nat.le_of_ble_eq_true rfl) dX9_init_9 hS (fun q hq => hq.elim (fun h => Or.inr (by omega)) (fun h => Or.inr (by omega))) (fun H locs hG hsz2 ho hS => ?_)
  replace hat := va_at.kept hat (ho b (by omega) (fun z => z.elim (fun h => by omega) (fun h => by omega)))
  obtain ⟨⟨hg1, hg2, hg3⟩, hsz⟩ := hG
  have hL1 := zW_loft hg1 hg2 hg3
  refine zkPF X hinit hK hat hS (Or.inl rfl) rfl zin7 tyX9 tyX9_ok nmX9 0 (by decide) rfl rfl rfl m_308 rfl (ty := .object "Silkloft$Loft") (by decide +kernel) rfl rfl (Nat.le_of_ble_eq_true rfl) dX9_init_12 (fun H locs hat hz2 ho hS => ?_)
  replace hL1 := zW.kept hL1 (fun q hq => ho q (by have := zrg_L hq; omega))
  replace hsz : H.size = n + 168 := by omega
  refine lv_aload_n hx hb dX9_init_15 rfl (lv_at hl 0 rfl) ?_
  refine zkNO (h := n + 168) (ci := 5) (fs := [.null, .null, .null, .null, .null, .int 0, .int 0, .int 0, .int 0, .int 0, .int 0, .long 0, .int 0]) X hK rfl zin5 tyX5 tyX5_ok m_33 m_34 m_2 (by decide) ⟨(Nat.le_of_ble_eq_true rfl), (Nat.le_of_ble_eq_true rfl)⟩ hsz hS dX9_init_16 (fun H hn0 hz1 ho1 hS => ?_)
  replace hat := va_at.kept hat (ho1 b (by omega))
  replace hL1 := zW.kept hL1 (fun q hq => ho1 q (by have := zrg_L hq; omega))
  refine lv_dup hx hb dX9_init_19 rfl ?_
  refine zcallC (rest := [.ref (n + 168), .ref b]) X hml hK hP ⟨hn0, hz1⟩ (ctX5_init l D cy (n + 168) (n + 169) (by omega)) ziX5_init (by decide) m_35 ⟨(Nat.le_of_ble_eq_true rfl), (Nat.le_of_ble_eq_true rfl)⟩ ⟨(Nat.le_of_ble_eq_true rfl), (Nat.le_of_ble_eq_true rfl)⟩ hl.1 (Nat.le_of_ble_eq_true rfl) dX9_init_20 hS (fun q hq => hq.elim (fun h => Or.inr (by omega)) (fun h => Or.inr (by omega))) (fun H locs hG hsz2 ho hS => ?_)
  replace hat := va_at.kept hat (ho b (by omega) (fun z => z.elim (fun h => by omega) (fun h => by omega)))
  replace hL1 := zW.kept hL1 (fun q hq => ho q (by have := zrg_L hq; omega) (fun z => by have := zrg_L hq; exact z.elim (fun h => by omega) (fun h => by omega)))
  obtain ⟨⟨hg1, hg2, hg3⟩, hsz⟩ := hG
  have hL2 := zW_loft hg1 hg2 hg3
  refine zkPF X hinit hK hat hS (Or.inl rfl) rfl zin7 tyX9 tyX9_ok nmX9 1 (by decide) rfl rfl rfl m_309 rfl (ty := .object "Silkloft$Loft") (by decide +kernel) rfl rfl (Nat.le_of_ble_eq_true rfl) dX9_init_23 (fun H locs hat hz2 ho hS => ?_)
  replace hL1 := zW.kept hL1 (fun q hq => ho q (by have := zrg_L hq; omega))
  replace hL2 := zW.kept hL2 (fun q hq => ho q (by have := zrg_L hq; omega))
  replace hsz : H.size = n + 336 := by omega
  refine lv_aload_n hx hb dX9_init_26 rfl (lv_at hl 0 rfl) ?_
  refine zkNO (h := n + 336) (ci := 2) (fs := [.int 0, .null]) X hK rfl zin2 tyX2 tyX2_ok m_294 m_295 m_8 (by decide) ⟨(Nat.le_of_ble_eq_true rfl), (Nat.le_of_ble_eq_true rfl)⟩ hsz hS dX9_init_27 (fun H hn0 hz1 ho1 hS => ?_)
  replace hat := va_at.kept hat (ho1 b (by omega))
  replace hL1 := zW.kept hL1 (fun q hq => ho1 q (by have := zrg_L hq; omega))
  replace hL2 := zW.kept hL2 (fun q hq => ho1 q (by have := zrg_L hq; omega))
  refine lv_dup hx hb dX9_init_30 rfl ?_
  refine zcallCN (rest := [.ref (n + 336), .ref b]) X hml hK hP ⟨hn0, hz1⟩ (ctX2_init l D cy (n + 336) (n + 337) (by omega)) ziX2_init (by decide) hP.2.2.2.2.2.2 ⟨(Nat.le_of_ble_eq_true rfl), (Nat.le_of_ble_eq_true rfl)⟩ ⟨(Nat.le_of_ble_eq_true rfl), (Nat.le_of_ble_eq_true rfl)⟩ hl.1 (Nat.le_of_ble_eq_true rfl) dX9_init_31 hS (fun q hq => hq.elim (fun h => Or.inr (by omega)) (fun h => Or.inr (by omega))) (fun H locs hG hsz2 ho hS => ?_)
  replace hat := va_at.kept hat (ho b (by omega) (fun z => z.elim (fun h => by omega) (fun h => by omega)))
  replace hL1 := zW.kept hL1 (fun q hq => ho q (by have := zrg_L hq; omega) (fun z => by have := zrg_L hq; exact z.elim (fun h => by omega) (fun h => by omega)))
  replace hL2 := zW.kept hL2 (fun q hq => ho q (by have := zrg_L hq; omega) (fun z => by have := zrg_L hq; exact z.elim (fun h => by omega) (fun h => by omega)))
  obtain ⟨hg1, hg2, hsz⟩ := hG
  have hDy := zW_diary hg1 hg2
  refine zkPF X hinit hK hat hS (Or.inl rfl) rfl zin7 tyX9 tyX9_ok nmX9 2 (by decide) rfl rfl rfl m_310 rfl (ty := .object "Silkloft$Diary") (by decide +kernel) rfl rfl (Nat.le_of_ble_eq_true rfl) dX9_init_34 (fun H locs hat hz2 ho hS => ?_)
  replace hL1 := zW.kept hL1 (fun q hq => ho q (by have := zrg_L hq; omega))
  replace hL2 := zW.kept hL2 (fun q hq => ho q (by have := zrg_L hq; omega))
  replace hDy := zW.kept hDy (fun q hq => ho q (by have := zrg_Y hq; omega))
  replace hsz : H.size = n + 338 := by omega
  exact zkE X hr hlocks ⟨⟨hat, hL1, hL2, hDy⟩, hsz⟩ hS (Nat.le_of_ble_eq_true rfl) (Nat.le_of_ble_eq_true rfl) dX9_init_37
def fsM (n k : Nat) : List Value := (List.range 48).map (fun j => if j < 38 then (if j < k then .ref (n + j) else .null) else if j = 47 then .long 0 else .int 0)
def fsM0 : List Value := (List.range 48).map (fun j => if j < 38 then .null else if j = 47 then .long 0 else .int 0)
theorem fsM_0 (n : Nat) : fsM0 = fsM n 0 := by simp [fsM, fsM0]
theorem fsM_set {n k : Nat} (hk : k < 38) : (fsM n k).set k (.ref (n + k)) = fsM n (k + 1) := by
  refine List.ext_getElem? fun j => ?_
  unfold fsM
  rw [List.getElem?_set, List.length_map, List.length_range, List.getElem?_map, List.getElem?_map]
  by_cases h : k = j
  · subst h
    rw [if_pos rfl, if_pos (by omega), List.getElem?_range (by omega)]
    simp [hk]
  · rw [if_neg h]
    by_cases hj : j < 48
    · rw [List.getElem?_range hj]
      by_cases h38 : j < 38
      · by_cases hjk : j < k
        · simp [h38, hjk, Nat.lt_succ_of_lt hjk]
        · have h2 : ¬ j < k + 1 := by omega
          simp [h38, hjk, h2]
      · simp [h38]
    · rw [List.getElem?_eq_none (by simp; omega)]
      rfl
theorem fsM_len (n k : Nat) : (fsM n k).length = 48 := by simp [fsM]
/-- the model's first k rows -/
def zMA (D : va_G) (cy : Nat → ClassId) (n k : Nat) (H : Heap) : Prop := ∀ j, j < k → va_at D zcl (n + j, .inl (cy 0, zkL (31 + j), .inl (fun _ => 0))) H
theorem zMA.step {D : va_G} {cy : Nat → ClassId} {n k N : Nat} {H H1 : Heap} (h : zMA D cy n k H) (hN : zkL (31 + k) = N) (o : ∀ q, q < n + k → H1[q]? = H[q]?) (hn : va_at D zcl (n + k, .inl (cy 0, N, .inl (fun _ => 0))) H1) : zMA D cy n (k + 1) H1 := by
  subst hN
  intro j hj
  rcases Nat.lt_succ_iff_lt_or_eq.mp hj with h1 | rfl
  · exact va_at.kept (h j h1) (o (n + j) (by omega))
  · exact hn
theorem zMA.kept {D : va_G} {cy : Nat → ClassId} {n k : Nat} {H H1 : Heap} (h : zMA D cy n k H) (o : ∀ q, n ≤ q → H1[q]? = H[q]?) : zMA D cy n k H1 := fun j hj => va_at.kept (h j hj) (o (n + j) (by show n ≤ n + j; omega))
set_option maxRecDepth 100000 in
set_option maxHeartbeats 4000000 in
theorem zW_model {D : va_G} {cy : Nat → ClassId} {b n : Nat} {H : Heap} (h : va_at D zcl (b, .inr (8, (fsM n 38).set 45 (.int 180))) H) (hA : zMA D cy n 38 H) : zW D cy (adM b n) zsM (zS0 845) H := by
  intro k i hk hi
  have hk : 30 ≤ k ∧ k < 69 := of_decide_eq_true hk
  rcases (show k = 30 ∨ ∃ j, j < 38 ∧ k = 31 + j by rcases Nat.lt_or_ge 30 k with q | q; exact Or.inr ⟨k - 31, by omega, by omega⟩; exact Or.inl (by omega)) with rfl | ⟨j, hj, rfl⟩
  · have hi : i < 1 := hi
    have e : i = 0 := by omega
    subst e
    exact h
  · have h1 := hA j hj
    rcases (show j = 0 ∨ j = 1 ∨ j = 2 ∨ j = 3 ∨ j = 4 ∨ j = 5 ∨ j = 6 ∨ j = 7 ∨ j = 8 ∨ j = 9 ∨ j = 10 ∨ j = 11 ∨ j = 12 ∨ j = 13 ∨ j = 14 ∨ j = 15 ∨ j = 16 ∨ j = 17 ∨ j = 18 ∨ j = 19 ∨ j = 20 ∨ j = 21 ∨ j = 22 ∨ j = 23 ∨ j = 24 ∨ j = 25 ∨ j = 26 ∨ j = 27 ∨ j = 28 ∨ j = 29 ∨ j = 30 ∨ j = 31 ∨ j = 32 ∨ j = 33 ∨ j = 34 ∨ j = 35 ∨ j = 36 ∨ j = 37 by omega) with rfl | rfl | rfl | rfl | rfl | rfl | rfl | rfl | rfl | rfl | rfl | rfl | rfl | rfl | rfl | rfl | rfl | rfl | rfl | rfl | rfl | rfl | rfl | rfl | rfl | rfl | rfl | rfl | rfl | rfl | rfl | rfl | rfl | rfl | rfl | rfl | rfl | rfl
    all_goals exact h1
theorem zinj_M {b n : Nat} (hb : b < n) : zinj (adM b n) zsM := by
  have key : ∀ k i, zsM k = true → i < zkN k → i = 0 ∧ (k = 30 ∧ adM b n k i = b ∨ ∃ j, j < 38 ∧ k = 31 + j ∧ adM b n k i = n + j) := by
    intro k i hk hi
    have hk : 30 ≤ k ∧ k < 69 := of_decide_eq_true hk
    rcases (show k = 30 ∨ ∃ j, j < 38 ∧ k = 31 + j by rcases Nat.lt_or_ge 30 k with q | q; exact Or.inr ⟨k - 31, by omega, by omega⟩; exact Or.inl (by omega)) with rfl | ⟨j, hj, rfl⟩
    · have hi : i < 1 := hi
      exact ⟨by omega, Or.inl ⟨rfl, rfl⟩⟩
    · refine ⟨?_, Or.inr ⟨j, hj, rfl, ?_⟩⟩
      · rcases (show j = 0 ∨ j = 1 ∨ j = 2 ∨ j = 3 ∨ j = 4 ∨ j = 5 ∨ j = 6 ∨ j = 7 ∨ j = 8 ∨ j = 9 ∨ j = 10 ∨ j = 11 ∨ j = 12 ∨ j = 13 ∨ j = 14 ∨ j = 15 ∨ j = 16 ∨ j = 17 ∨ j = 18 ∨ j = 19 ∨ j = 20 ∨ j = 21 ∨ j = 22 ∨ j = 23 ∨ j = 24 ∨ j = 25 ∨ j = 26 ∨ j = 27 ∨ j = 28 ∨ j = 29 ∨ j = 30 ∨ j = 31 ∨ j = 32 ∨ j = 33 ∨ j = 34 ∨ j = 35 ∨ j = 36 ∨ j = 37 by omega) with rfl | rfl | rfl | rfl | rfl | rfl | rfl | rfl | rfl | rfl | rfl | rfl | rfl | rfl | rfl | rfl | rfl | rfl | rfl | rfl | rfl | rfl | rfl | rfl | rfl | rfl | rfl | rfl | rfl | rfl | rfl | rfl | rfl | rfl | rfl | rfl | rfl | rfl <;> (have hi : i < 1 := hi; omega)
      · rcases (show j = 0 ∨ j = 1 ∨ j = 2 ∨ j = 3 ∨ j = 4 ∨ j = 5 ∨ j = 6 ∨ j = 7 ∨ j = 8 ∨ j = 9 ∨ j = 10 ∨ j = 11 ∨ j = 12 ∨ j = 13 ∨ j = 14 ∨ j = 15 ∨ j = 16 ∨ j = 17 ∨ j = 18 ∨ j = 19 ∨ j = 20 ∨ j = 21 ∨ j = 22 ∨ j = 23 ∨ j = 24 ∨ j = 25 ∨ j = 26 ∨ j = 27 ∨ j = 28 ∨ j = 29 ∨ j = 30 ∨ j = 31 ∨ j = 32 ∨ j = 33 ∨ j = 34 ∨ j = 35 ∨ j = 36 ∨ j = 37 by omega) with rfl | rfl | rfl | rfl | rfl | rfl | rfl | rfl | rfl | rfl | rfl | rfl | rfl | rfl | rfl | rfl | rfl | rfl | rfl | rfl | rfl | rfl | rfl | rfl | rfl | rfl | rfl | rfl | rfl | rfl | rfl | rfl | rfl | rfl | rfl | rfl | rfl | rfl <;> rfl
  intro k i k' i' hk hk' hi hi' h
  obtain ⟨rfl, e1⟩ := key k i hk hi
  obtain ⟨rfl, e2⟩ := key k' i' hk' hi'
  rcases e1 with ⟨rfl, e1⟩ | ⟨j, hj, rfl, e1⟩ <;> rcases e2 with ⟨rfl, e2⟩ | ⟨j', hj', rfl, e2⟩
  · exact ⟨rfl, rfl⟩
  · exfalso; rw [e1, e2] at h; omega
  · exfalso; rw [e1, e2] at h; omega
  · rw [e1, e2] at h; exact ⟨by omega, rfl⟩
theorem zrg_M {b n q : Nat} (h : zrg (adM b n) zsM q) : q = b ∨ (n ≤ q ∧ q < n + 38) := by
  obtain ⟨k, i, hk, hi, rfl⟩ := h
  have hk : 30 ≤ k ∧ k < 69 := of_decide_eq_true hk
  rcases (show k = 30 ∨ ∃ j, j < 38 ∧ k = 31 + j by rcases Nat.lt_or_ge 30 k with q | q; exact Or.inr ⟨k - 31, by omega, by omega⟩; exact Or.inl (by omega)) with rfl | ⟨j, hj, rfl⟩
  · exact Or.inl rfl
  · refine Or.inr ?_
    have e : adM b n (31 + j) i = n + j := by
      rcases (show j = 0 ∨ j = 1 ∨ j = 2 ∨ j = 3 ∨ j = 4 ∨ j = 5 ∨ j = 6 ∨ j = 7 ∨ j = 8 ∨ j = 9 ∨ j = 10 ∨ j = 11 ∨ j = 12 ∨ j = 13 ∨ j = 14 ∨ j = 15 ∨ j = 16 ∨ j = 17 ∨ j = 18 ∨ j = 19 ∨ j = 20 ∨ j = 21 ∨ j = 22 ∨ j = 23 ∨ j = 24 ∨ j = 25 ∨ j = 26 ∨ j = 27 ∨ j = 28 ∨ j = 29 ∨ j = 30 ∨ j = 31 ∨ j = 32 ∨ j = 33 ∨ j = 34 ∨ j = 35 ∨ j = 36 ∨ j = 37 by omega) with rfl | rfl | rfl | rfl | rfl | rfl | rfl | rfl | rfl | rfl | rfl | rfl | rfl | rfl | rfl | rfl | rfl | rfl | rfl | rfl | rfl | rfl | rfl | rfl | rfl | rfl | rfl | rfl | rfl | rfl | rfl | rfl | rfl | rfl | rfl | rfl | rfl | rfl <;> rfl
    rw [e]
    omega
theorem ziX10_init : zmI yX10_init RX10 cX10_init 1 := ⟨m_1103, m_9, m_1104, rfl, by decide, by decide, by decide +kernel, rfl⟩
section ZIM
variable {p : Program} {l : Launch} {e : Env} {s : State} {m : MethodId} {below : List Frame} {meth : Method} {c : Code} {D : va_G} {cy : Nat → ClassId} {b n : Nat}
set_option maxRecDepth 100000 in
set_option maxHeartbeats 4000000 in
theorem zim_38 (X : zX p m c s ([.ref b] : List Value).toArray RX10 cX10_init) (hml : c.maxLocals = 1) (hr : meth.sig.returnType = none) (hlocks : meth.locks = false) (hinit : meth.name = "<init>") (hK : zK D cy s) (hbn : b < n) (ls : Array Slot) (H : Heap) (locs : List Loc) (hl : lv_has ls 1 [(0, .ref b)]) (hsz : H.size = n + 38) (hat : va_at D zcl (b, .inr (8, fsM n 38)) H) (hA : zMA D cy n 38 H) (hS : va_S (zcA b n) s.heap H locs) : W p l e (zrx 1 38 2092) s m ([.ref b] : List Value).toArray below meth c H locs 38 2092 (MQ below (zqM none (fun H => zW D cy (adM b n) zsM (zS0 845) H ∧ H.size = n + 38) (zcA b n)) ([.ref b] : List Value).toArray s 38 2092 (zcA b n)) (F0 m 311 ls []) := by
  obtain ⟨hx, hb, -, -⟩ := id X
  refine lv_aload_n hx hb dX10_init_311 rfl (lv_at hl 0 rfl) ?_
  refine lv_sipush (v := 180) hx hb dX10_init_312 (by decide) ?_
  refine zkPN X hK hat hS (Or.inl rfl) rfl zin8 tyX10 tyX10_ok nmX10 45 (by decide) rfl rfl rfl m_1151 rfl (ty := .int) (by decide +kernel) rfl rfl (by rw [fsM_len]; decide) dX10_init_315 (fun H locs hat hz2 ho hS => ?_)
  exact zkE X hr hlocks ⟨zW_model hat (hA.kept (fun q hq => ho q (by omega))), hz2.trans hsz⟩ hS (Nat.le_of_ble_eq_true rfl) (Nat.le_of_ble_eq_true rfl) dX10_init_318
set_option maxRecDepth 100000 in
set_option maxHeartbeats 4000000 in
theorem zim_37 (X : zX p m c s ([.ref b] : List Value).toArray RX10 cX10_init) (hml : c.maxLocals = 1) (hr : meth.sig.returnType = none) (hlocks : meth.locks = false) (hinit : meth.name = "<init>") (hK : zK D cy s) (hbn : b < n) (ls : Array Slot) (H : Heap) (locs : List Loc) (hl : lv_has ls 1 [(0, .ref b)]) (hsz : H.size = n + 37) (hat : va_at D zcl (b, .inr (8, fsM n 37)) H) (hA : zMA D cy n 37 H) (hS : va_S (zcA b n) s.heap H locs) : W p l e (zrx 1 38 2092) s m ([.ref b] : List Value).toArray below meth c H locs 37 2080 (MQ below (zqM none (fun H => zW D cy (adM b n) zsM (zS0 845) H ∧ H.size = n + 38) (zcA b n)) ([.ref b] : List Value).toArray s 38 2092 (zcA b n)) (F0 m 303 ls []) := by
  obtain ⟨hx, hb, -, -⟩ := id X
  refine lv_aload_n hx hb dX10_init_303 rfl (lv_at hl 0 rfl) ?_
  refine lv_bipush (v := 12) hx hb dX10_init_304 (by decide) ?_
  refine zkNI (h := n + 37) (N := 12) X hK m_72 (by decide) rfl (Nat.le_of_ble_eq_true rfl) ⟨(Nat.le_of_ble_eq_true rfl), (Nat.le_of_ble_eq_true rfl)⟩ hsz hS dX10_init_306 (fun H hn hz ho hS => ?_)
  replace hat := va_at.kept hat (ho b (by omega))
  replace hA := hA.step (k := 37) (N := 12) rfl ho hn
  refine zkPF X hinit hK hat hS (Or.inl rfl) rfl zin8 tyX10 tyX10_ok nmX10 37 (by decide) rfl rfl rfl m_1143 rfl (ty := .array .int) (by decide +kernel) rfl rfl (by rw [fsM_len]; decide) dX10_init_308 (fun H locs hat hz2 ho hS => ?_)
  rw [fsM_set (by decide)] at hat
  exact zwid (Nat.le_of_ble_eq_true rfl) (Nat.le_of_ble_eq_true rfl) (zim_38 X hml hr hlocks hinit hK hbn ls H locs hl (hz2.trans hz) hat (hA.kept (fun q hq => ho q (by omega))) hS)
set_option maxRecDepth 100000 in
set_option maxHeartbeats 4000000 in
theorem zim_36 (X : zX p m c s ([.ref b] : List Value).toArray RX10 cX10_init) (hml : c.maxLocals = 1) (hr : meth.sig.returnType = none) (hlocks : meth.locks = false) (hinit : meth.name = "<init>") (hK : zK D cy s) (hbn : b < n) (ls : Array Slot) (H : Heap) (locs : List Loc) (hl : lv_has ls 1 [(0, .ref b)]) (hsz : H.size = n + 36) (hat : va_at D zcl (b, .inr (8, fsM n 36)) H) (hA : zMA D cy n 36 H) (hS : va_S (zcA b n) s.heap H locs) : W p l e (zrx 1 38 2092) s m ([.ref b] : List Value).toArray below meth c H locs 36 2068 (MQ below (zqM none (fun H => zW D cy (adM b n) zsM (zS0 845) H ∧ H.size = n + 38) (zcA b n)) ([.ref b] : List Value).toArray s 38 2092 (zcA b n)) (F0 m 295 ls []) := by
  obtain ⟨hx, hb, -, -⟩ := id X
  refine lv_aload_n hx hb dX10_init_295 rfl (lv_at hl 0 rfl) ?_
  refine lv_bipush (v := 12) hx hb dX10_init_296 (by decide) ?_
  refine zkNI (h := n + 36) (N := 12) X hK m_72 (by decide) rfl (Nat.le_of_ble_eq_true rfl) ⟨(Nat.le_of_ble_eq_true rfl), (Nat.le_of_ble_eq_true rfl)⟩ hsz hS dX10_init_298 (fun H hn hz ho hS => ?_)
  replace hat := va_at.kept hat (ho b (by omega))
  replace hA := hA.step (k := 36) (N := 12) rfl ho hn
  refine zkPF X hinit hK hat hS (Or.inl rfl) rfl zin8 tyX10 tyX10_ok nmX10 36 (by decide) rfl rfl rfl m_1142 rfl (ty := .array .int) (by decide +kernel) rfl rfl (by rw [fsM_len]; decide) dX10_init_300 (fun H locs hat hz2 ho hS => ?_)
  rw [fsM_set (by decide)] at hat
  exact zwid (Nat.le_of_ble_eq_true rfl) (Nat.le_of_ble_eq_true rfl) (zim_37 X hml hr hlocks hinit hK hbn ls H locs hl (hz2.trans hz) hat (hA.kept (fun q hq => ho q (by omega))) hS)
set_option maxRecDepth 100000 in
set_option maxHeartbeats 4000000 in
theorem zim_35 (X : zX p m c s ([.ref b] : List Value).toArray RX10 cX10_init) (hml : c.maxLocals = 1) (hr : meth.sig.returnType = none) (hlocks : meth.locks = false) (hinit : meth.name = "<init>") (hK : zK D cy s) (hbn : b < n) (ls : Array Slot) (H : Heap) (locs : List Loc) (hl : lv_has ls 1 [(0, .ref b)]) (hsz : H.size = n + 35) (hat : va_at D zcl (b, .inr (8, fsM n 35)) H) (hA : zMA D cy n 35 H) (hS : va_S (zcA b n) s.heap H locs) : W p l e (zrx 1 38 2092) s m ([.ref b] : List Value).toArray below meth c H locs 35 2056 (MQ below (zqM none (fun H => zW D cy (adM b n) zsM (zS0 845) H ∧ H.size = n + 38) (zcA b n)) ([.ref b] : List Value).toArray s 38 2092 (zcA b n)) (F0 m 287 ls []) := by
  obtain ⟨hx, hb, -, -⟩ := id X
  refine lv_aload_n hx hb dX10_init_287 rfl (lv_at hl 0 rfl) ?_
  refine lv_bipush (v := 12) hx hb dX10_init_288 (by decide) ?_
  refine zkNI (h := n + 35) (N := 12) X hK m_72 (by decide) rfl (Nat.le_of_ble_eq_true rfl) ⟨(Nat.le_of_ble_eq_true rfl), (Nat.le_of_ble_eq_true rfl)⟩ hsz hS dX10_init_290 (fun H hn hz ho hS => ?_)
  replace hat := va_at.kept hat (ho b (by omega))
  replace hA := hA.step (k := 35) (N := 12) rfl ho hn
  refine zkPF X hinit hK hat hS (Or.inl rfl) rfl zin8 tyX10 tyX10_ok nmX10 35 (by decide) rfl rfl rfl m_1141 rfl (ty := .array .int) (by decide +kernel) rfl rfl (by rw [fsM_len]; decide) dX10_init_292 (fun H locs hat hz2 ho hS => ?_)
  rw [fsM_set (by decide)] at hat
  exact zwid (Nat.le_of_ble_eq_true rfl) (Nat.le_of_ble_eq_true rfl) (zim_36 X hml hr hlocks hinit hK hbn ls H locs hl (hz2.trans hz) hat (hA.kept (fun q hq => ho q (by omega))) hS)
set_option maxRecDepth 100000 in
set_option maxHeartbeats 4000000 in
theorem zim_34 (X : zX p m c s ([.ref b] : List Value).toArray RX10 cX10_init) (hml : c.maxLocals = 1) (hr : meth.sig.returnType = none) (hlocks : meth.locks = false) (hinit : meth.name = "<init>") (hK : zK D cy s) (hbn : b < n) (ls : Array Slot) (H : Heap) (locs : List Loc) (hl : lv_has ls 1 [(0, .ref b)]) (hsz : H.size = n + 34) (hat : va_at D zcl (b, .inr (8, fsM n 34)) H) (hA : zMA D cy n 34 H) (hS : va_S (zcA b n) s.heap H locs) : W p l e (zrx 1 38 2092) s m ([.ref b] : List Value).toArray below meth c H locs 34 2044 (MQ below (zqM none (fun H => zW D cy (adM b n) zsM (zS0 845) H ∧ H.size = n + 38) (zcA b n)) ([.ref b] : List Value).toArray s 38 2092 (zcA b n)) (F0 m 279 ls []) := by
  obtain ⟨hx, hb, -, -⟩ := id X
  refine lv_aload_n hx hb dX10_init_279 rfl (lv_at hl 0 rfl) ?_
  refine lv_bipush (v := 12) hx hb dX10_init_280 (by decide) ?_
  refine zkNI (h := n + 34) (N := 12) X hK m_72 (by decide) rfl (Nat.le_of_ble_eq_true rfl) ⟨(Nat.le_of_ble_eq_true rfl), (Nat.le_of_ble_eq_true rfl)⟩ hsz hS dX10_init_282 (fun H hn hz ho hS => ?_)
  replace hat := va_at.kept hat (ho b (by omega))
  replace hA := hA.step (k := 34) (N := 12) rfl ho hn
  refine zkPF X hinit hK hat hS (Or.inl rfl) rfl zin8 tyX10 tyX10_ok nmX10 34 (by decide) rfl rfl rfl m_1140 rfl (ty := .array .int) (by decide +kernel) rfl rfl (by rw [fsM_len]; decide) dX10_init_284 (fun H locs hat hz2 ho hS => ?_)
  rw [fsM_set (by decide)] at hat
  exact zwid (Nat.le_of_ble_eq_true rfl) (Nat.le_of_ble_eq_true rfl) (zim_35 X hml hr hlocks hinit hK hbn ls H locs hl (hz2.trans hz) hat (hA.kept (fun q hq => ho q (by omega))) hS)
set_option maxRecDepth 100000 in
set_option maxHeartbeats 4000000 in
theorem zim_33 (X : zX p m c s ([.ref b] : List Value).toArray RX10 cX10_init) (hml : c.maxLocals = 1) (hr : meth.sig.returnType = none) (hlocks : meth.locks = false) (hinit : meth.name = "<init>") (hK : zK D cy s) (hbn : b < n) (ls : Array Slot) (H : Heap) (locs : List Loc) (hl : lv_has ls 1 [(0, .ref b)]) (hsz : H.size = n + 33) (hat : va_at D zcl (b, .inr (8, fsM n 33)) H) (hA : zMA D cy n 33 H) (hS : va_S (zcA b n) s.heap H locs) : W p l e (zrx 1 38 2092) s m ([.ref b] : List Value).toArray below meth c H locs 33 2032 (MQ below (zqM none (fun H => zW D cy (adM b n) zsM (zS0 845) H ∧ H.size = n + 38) (zcA b n)) ([.ref b] : List Value).toArray s 38 2092 (zcA b n)) (F0 m 271 ls []) := by
  obtain ⟨hx, hb, -, -⟩ := id X
  refine lv_aload_n hx hb dX10_init_271 rfl (lv_at hl 0 rfl) ?_
  refine lv_bipush (v := 12) hx hb dX10_init_272 (by decide) ?_
  refine zkNI (h := n + 33) (N := 12) X hK m_72 (by decide) rfl (Nat.le_of_ble_eq_true rfl) ⟨(Nat.le_of_ble_eq_true rfl), (Nat.le_of_ble_eq_true rfl)⟩ hsz hS dX10_init_274 (fun H hn hz ho hS => ?_)
  replace hat := va_at.kept hat (ho b (by omega))
  replace hA := hA.step (k := 33) (N := 12) rfl ho hn
  refine zkPF X hinit hK hat hS (Or.inl rfl) rfl zin8 tyX10 tyX10_ok nmX10 33 (by decide) rfl rfl rfl m_1139 rfl (ty := .array .int) (by decide +kernel) rfl rfl (by rw [fsM_len]; decide) dX10_init_276 (fun H locs hat hz2 ho hS => ?_)
  rw [fsM_set (by decide)] at hat
  exact zwid (Nat.le_of_ble_eq_true rfl) (Nat.le_of_ble_eq_true rfl) (zim_34 X hml hr hlocks hinit hK hbn ls H locs hl (hz2.trans hz) hat (hA.kept (fun q hq => ho q (by omega))) hS)
set_option maxRecDepth 100000 in
set_option maxHeartbeats 4000000 in
theorem zim_32 (X : zX p m c s ([.ref b] : List Value).toArray RX10 cX10_init) (hml : c.maxLocals = 1) (hr : meth.sig.returnType = none) (hlocks : meth.locks = false) (hinit : meth.name = "<init>") (hK : zK D cy s) (hbn : b < n) (ls : Array Slot) (H : Heap) (locs : List Loc) (hl : lv_has ls 1 [(0, .ref b)]) (hsz : H.size = n + 32) (hat : va_at D zcl (b, .inr (8, fsM n 32)) H) (hA : zMA D cy n 32 H) (hS : va_S (zcA b n) s.heap H locs) : W p l e (zrx 1 38 2092) s m ([.ref b] : List Value).toArray below meth c H locs 32 2020 (MQ below (zqM none (fun H => zW D cy (adM b n) zsM (zS0 845) H ∧ H.size = n + 38) (zcA b n)) ([.ref b] : List Value).toArray s 38 2092 (zcA b n)) (F0 m 263 ls []) := by
  obtain ⟨hx, hb, -, -⟩ := id X
  refine lv_aload_n hx hb dX10_init_263 rfl (lv_at hl 0 rfl) ?_
  refine lv_bipush (v := 12) hx hb dX10_init_264 (by decide) ?_
  refine zkNI (h := n + 32) (N := 12) X hK m_72 (by decide) rfl (Nat.le_of_ble_eq_true rfl) ⟨(Nat.le_of_ble_eq_true rfl), (Nat.le_of_ble_eq_true rfl)⟩ hsz hS dX10_init_266 (fun H hn hz ho hS => ?_)
  replace hat := va_at.kept hat (ho b (by omega))
  replace hA := hA.step (k := 32) (N := 12) rfl ho hn
  refine zkPF X hinit hK hat hS (Or.inl rfl) rfl zin8 tyX10 tyX10_ok nmX10 32 (by decide) rfl rfl rfl m_1138 rfl (ty := .array .int) (by decide +kernel) rfl rfl (by rw [fsM_len]; decide) dX10_init_268 (fun H locs hat hz2 ho hS => ?_)
  rw [fsM_set (by decide)] at hat
  exact zwid (Nat.le_of_ble_eq_true rfl) (Nat.le_of_ble_eq_true rfl) (zim_33 X hml hr hlocks hinit hK hbn ls H locs hl (hz2.trans hz) hat (hA.kept (fun q hq => ho q (by omega))) hS)
set_option maxRecDepth 100000 in
set_option maxHeartbeats 4000000 in
theorem zim_31 (X : zX p m c s ([.ref b] : List Value).toArray RX10 cX10_init) (hml : c.maxLocals = 1) (hr : meth.sig.returnType = none) (hlocks : meth.locks = false) (hinit : meth.name = "<init>") (hK : zK D cy s) (hbn : b < n) (ls : Array Slot) (H : Heap) (locs : List Loc) (hl : lv_has ls 1 [(0, .ref b)]) (hsz : H.size = n + 31) (hat : va_at D zcl (b, .inr (8, fsM n 31)) H) (hA : zMA D cy n 31 H) (hS : va_S (zcA b n) s.heap H locs) : W p l e (zrx 1 38 2092) s m ([.ref b] : List Value).toArray below meth c H locs 31 1840 (MQ below (zqM none (fun H => zW D cy (adM b n) zsM (zS0 845) H ∧ H.size = n + 38) (zcA b n)) ([.ref b] : List Value).toArray s 38 2092 (zcA b n)) (F0 m 254 ls []) := by
  obtain ⟨hx, hb, -, -⟩ := id X
  refine lv_aload_n hx hb dX10_init_254 rfl (lv_at hl 0 rfl) ?_
  refine lv_sipush (v := 180) hx hb dX10_init_255 (by decide) ?_
  refine zkNI (h := n + 31) (N := 180) X hK m_72 (by decide) rfl (Nat.le_of_ble_eq_true rfl) ⟨(Nat.le_of_ble_eq_true rfl), (Nat.le_of_ble_eq_true rfl)⟩ hsz hS dX10_init_258 (fun H hn hz ho hS => ?_)
  replace hat := va_at.kept hat (ho b (by omega))
  replace hA := hA.step (k := 31) (N := 180) rfl ho hn
  refine zkPF X hinit hK hat hS (Or.inl rfl) rfl zin8 tyX10 tyX10_ok nmX10 31 (by decide) rfl rfl rfl m_1137 rfl (ty := .array .int) (by decide +kernel) rfl rfl (by rw [fsM_len]; decide) dX10_init_260 (fun H locs hat hz2 ho hS => ?_)
  rw [fsM_set (by decide)] at hat
  exact zwid (Nat.le_of_ble_eq_true rfl) (Nat.le_of_ble_eq_true rfl) (zim_32 X hml hr hlocks hinit hK hbn ls H locs hl (hz2.trans hz) hat (hA.kept (fun q hq => ho q (by omega))) hS)
set_option maxRecDepth 100000 in
set_option maxHeartbeats 4000000 in
theorem zim_30 (X : zX p m c s ([.ref b] : List Value).toArray RX10 cX10_init) (hml : c.maxLocals = 1) (hr : meth.sig.returnType = none) (hlocks : meth.locks = false) (hinit : meth.name = "<init>") (hK : zK D cy s) (hbn : b < n) (ls : Array Slot) (H : Heap) (locs : List Loc) (hl : lv_has ls 1 [(0, .ref b)]) (hsz : H.size = n + 30) (hat : va_at D zcl (b, .inr (8, fsM n 30)) H) (hA : zMA D cy n 30 H) (hS : va_S (zcA b n) s.heap H locs) : W p l e (zrx 1 38 2092) s m ([.ref b] : List Value).toArray below meth c H locs 30 1660 (MQ below (zqM none (fun H => zW D cy (adM b n) zsM (zS0 845) H ∧ H.size = n + 38) (zcA b n)) ([.ref b] : List Value).toArray s 38 2092 (zcA b n)) (F0 m 245 ls []) := by
  obtain ⟨hx, hb, -, -⟩ := id X
  refine lv_aload_n hx hb dX10_init_245 rfl (lv_at hl 0 rfl) ?_
  refine lv_sipush (v := 180) hx hb dX10_init_246 (by decide) ?_
  refine zkNI (h := n + 30) (N := 180) X hK m_72 (by decide) rfl (Nat.le_of_ble_eq_true rfl) ⟨(Nat.le_of_ble_eq_true rfl), (Nat.le_of_ble_eq_true rfl)⟩ hsz hS dX10_init_249 (fun H hn hz ho hS => ?_)
  replace hat := va_at.kept hat (ho b (by omega))
  replace hA := hA.step (k := 30) (N := 180) rfl ho hn
  refine zkPF X hinit hK hat hS (Or.inl rfl) rfl zin8 tyX10 tyX10_ok nmX10 30 (by decide) rfl rfl rfl m_1136 rfl (ty := .array .int) (by decide +kernel) rfl rfl (by rw [fsM_len]; decide) dX10_init_251 (fun H locs hat hz2 ho hS => ?_)
  rw [fsM_set (by decide)] at hat
  exact zwid (Nat.le_of_ble_eq_true rfl) (Nat.le_of_ble_eq_true rfl) (zim_31 X hml hr hlocks hinit hK hbn ls H locs hl (hz2.trans hz) hat (hA.kept (fun q hq => ho q (by omega))) hS)
set_option maxRecDepth 100000 in
set_option maxHeartbeats 4000000 in
theorem zim_29 (X : zX p m c s ([.ref b] : List Value).toArray RX10 cX10_init) (hml : c.maxLocals = 1) (hr : meth.sig.returnType = none) (hlocks : meth.locks = false) (hinit : meth.name = "<init>") (hK : zK D cy s) (hbn : b < n) (ls : Array Slot) (H : Heap) (locs : List Loc) (hl : lv_has ls 1 [(0, .ref b)]) (hsz : H.size = n + 29) (hat : va_at D zcl (b, .inr (8, fsM n 29)) H) (hA : zMA D cy n 29 H) (hS : va_S (zcA b n) s.heap H locs) : W p l e (zrx 1 38 2092) s m ([.ref b] : List Value).toArray below meth c H locs 29 1630 (MQ below (zqM none (fun H => zW D cy (adM b n) zsM (zS0 845) H ∧ H.size = n + 38) (zcA b n)) ([.ref b] : List Value).toArray s 38 2092 (zcA b n)) (F0 m 237 ls []) := by
  obtain ⟨hx, hb, -, -⟩ := id X
  refine lv_aload_n hx hb dX10_init_237 rfl (lv_at hl 0 rfl) ?_
  refine lv_bipush (v := 30) hx hb dX10_init_238 (by decide) ?_
  refine zkNI (h := n + 29) (N := 30) X hK m_72 (by decide) rfl (Nat.le_of_ble_eq_true rfl) ⟨(Nat.le_of_ble_eq_true rfl), (Nat.le_of_ble_eq_true rfl)⟩ hsz hS dX10_init_240 (fun H hn hz ho hS => ?_)
  replace hat := va_at.kept hat (ho b (by omega))
  replace hA := hA.step (k := 29) (N := 30) rfl ho hn
  refine zkPF X hinit hK hat hS (Or.inl rfl) rfl zin8 tyX10 tyX10_ok nmX10 29 (by decide) rfl rfl rfl m_1135 rfl (ty := .array .int) (by decide +kernel) rfl rfl (by rw [fsM_len]; decide) dX10_init_242 (fun H locs hat hz2 ho hS => ?_)
  rw [fsM_set (by decide)] at hat
  exact zwid (Nat.le_of_ble_eq_true rfl) (Nat.le_of_ble_eq_true rfl) (zim_30 X hml hr hlocks hinit hK hbn ls H locs hl (hz2.trans hz) hat (hA.kept (fun q hq => ho q (by omega))) hS)
set_option maxRecDepth 100000 in
set_option maxHeartbeats 4000000 in
theorem zim_28 (X : zX p m c s ([.ref b] : List Value).toArray RX10 cX10_init) (hml : c.maxLocals = 1) (hr : meth.sig.returnType = none) (hlocks : meth.locks = false) (hinit : meth.name = "<init>") (hK : zK D cy s) (hbn : b < n) (ls : Array Slot) (H : Heap) (locs : List Loc) (hl : lv_has ls 1 [(0, .ref b)]) (hsz : H.size = n + 28) (hat : va_at D zcl (b, .inr (8, fsM n 28)) H) (hA : zMA D cy n 28 H) (hS : va_S (zcA b n) s.heap H locs) : W p l e (zrx 1 38 2092) s m ([.ref b] : List Value).toArray below meth c H locs 28 1600 (MQ below (zqM none (fun H => zW D cy (adM b n) zsM (zS0 845) H ∧ H.size = n + 38) (zcA b n)) ([.ref b] : List Value).toArray s 38 2092 (zcA b n)) (F0 m 229 ls []) := by
  obtain ⟨hx, hb, -, -⟩ := id X
  refine lv_aload_n hx hb dX10_init_229 rfl (lv_at hl 0 rfl) ?_
  refine lv_bipush (v := 30) hx hb dX10_init_230 (by decide) ?_
  refine zkNI (h := n + 28) (N := 30) X hK m_72 (by decide) rfl (Nat.le_of_ble_eq_true rfl) ⟨(Nat.le_of_ble_eq_true rfl), (Nat.le_of_ble_eq_true rfl)⟩ hsz hS dX10_init_232 (fun H hn hz ho hS => ?_)
  replace hat := va_at.kept hat (ho b (by omega))
  replace hA := hA.step (k := 28) (N := 30) rfl ho hn
  refine zkPF X hinit hK hat hS (Or.inl rfl) rfl zin8 tyX10 tyX10_ok nmX10 28 (by decide) rfl rfl rfl m_1134 rfl (ty := .array .int) (by decide +kernel) rfl rfl (by rw [fsM_len]; decide) dX10_init_234 (fun H locs hat hz2 ho hS => ?_)
  rw [fsM_set (by decide)] at hat
  exact zwid (Nat.le_of_ble_eq_true rfl) (Nat.le_of_ble_eq_true rfl) (zim_29 X hml hr hlocks hinit hK hbn ls H locs hl (hz2.trans hz) hat (hA.kept (fun q hq => ho q (by omega))) hS)
set_option maxRecDepth 100000 in
set_option maxHeartbeats 4000000 in
theorem zim_27 (X : zX p m c s ([.ref b] : List Value).toArray RX10 cX10_init) (hml : c.maxLocals = 1) (hr : meth.sig.returnType = none) (hlocks : meth.locks = false) (hinit : meth.name = "<init>") (hK : zK D cy s) (hbn : b < n) (ls : Array Slot) (H : Heap) (locs : List Loc) (hl : lv_has ls 1 [(0, .ref b)]) (hsz : H.size = n + 27) (hat : va_at D zcl (b, .inr (8, fsM n 27)) H) (hA : zMA D cy n 27 H) (hS : va_S (zcA b n) s.heap H locs) : W p l e (zrx 1 38 2092) s m ([.ref b] : List Value).toArray below meth c H locs 27 1000 (MQ below (zqM none (fun H => zW D cy (adM b n) zsM (zS0 845) H ∧ H.size = n + 38) (zcA b n)) ([.ref b] : List Value).toArray s 38 2092 (zcA b n)) (F0 m 220 ls []) := by
  obtain ⟨hx, hb, -, -⟩ := id X
  refine lv_aload_n hx hb dX10_init_220 rfl (lv_at hl 0 rfl) ?_
  refine lv_sipush (v := 600) hx hb dX10_init_221 (by decide) ?_
  refine zkNI (h := n + 27) (N := 600) X hK m_72 (by decide) rfl (Nat.le_of_ble_eq_true rfl) ⟨(Nat.le_of_ble_eq_true rfl), (Nat.le_of_ble_eq_true rfl)⟩ hsz hS dX10_init_224 (fun H hn hz ho hS => ?_)
  replace hat := va_at.kept hat (ho b (by omega))
  replace hA := hA.step (k := 27) (N := 600) rfl ho hn
  refine zkPF X hinit hK hat hS (Or.inl rfl) rfl zin8 tyX10 tyX10_ok nmX10 27 (by decide) rfl rfl rfl m_1133 rfl (ty := .array .int) (by decide +kernel) rfl rfl (by rw [fsM_len]; decide) dX10_init_226 (fun H locs hat hz2 ho hS => ?_)
  rw [fsM_set (by decide)] at hat
  exact zwid (Nat.le_of_ble_eq_true rfl) (Nat.le_of_ble_eq_true rfl) (zim_28 X hml hr hlocks hinit hK hbn ls H locs hl (hz2.trans hz) hat (hA.kept (fun q hq => ho q (by omega))) hS)
set_option maxRecDepth 100000 in
set_option maxHeartbeats 4000000 in
theorem zim_26 (X : zX p m c s ([.ref b] : List Value).toArray RX10 cX10_init) (hml : c.maxLocals = 1) (hr : meth.sig.returnType = none) (hlocks : meth.locks = false) (hinit : meth.name = "<init>") (hK : zK D cy s) (hbn : b < n) (ls : Array Slot) (H : Heap) (locs : List Loc) (hl : lv_has ls 1 [(0, .ref b)]) (hsz : H.size = n + 26) (hat : va_at D zcl (b, .inr (8, fsM n 26)) H) (hA : zMA D cy n 26 H) (hS : va_S (zcA b n) s.heap H locs) : W p l e (zrx 1 38 2092) s m ([.ref b] : List Value).toArray below meth c H locs 26 880 (MQ below (zqM none (fun H => zW D cy (adM b n) zsM (zS0 845) H ∧ H.size = n + 38) (zcA b n)) ([.ref b] : List Value).toArray s 38 2092 (zcA b n)) (F0 m 212 ls []) := by
  obtain ⟨hx, hb, -, -⟩ := id X
  refine lv_aload_n hx hb dX10_init_212 rfl (lv_at hl 0 rfl) ?_
  refine lv_bipush (v := 120) hx hb dX10_init_213 (by decide) ?_
  refine zkNI (h := n + 26) (N := 120) X hK m_72 (by decide) rfl (Nat.le_of_ble_eq_true rfl) ⟨(Nat.le_of_ble_eq_true rfl), (Nat.le_of_ble_eq_true rfl)⟩ hsz hS dX10_init_215 (fun H hn hz ho hS => ?_)
  replace hat := va_at.kept hat (ho b (by omega))
  replace hA := hA.step (k := 26) (N := 120) rfl ho hn
  refine zkPF X hinit hK hat hS (Or.inl rfl) rfl zin8 tyX10 tyX10_ok nmX10 26 (by decide) rfl rfl rfl m_1132 rfl (ty := .array .int) (by decide +kernel) rfl rfl (by rw [fsM_len]; decide) dX10_init_217 (fun H locs hat hz2 ho hS => ?_)
  rw [fsM_set (by decide)] at hat
  exact zwid (Nat.le_of_ble_eq_true rfl) (Nat.le_of_ble_eq_true rfl) (zim_27 X hml hr hlocks hinit hK hbn ls H locs hl (hz2.trans hz) hat (hA.kept (fun q hq => ho q (by omega))) hS)
set_option maxRecDepth 100000 in
set_option maxHeartbeats 4000000 in
theorem zim_25 (X : zX p m c s ([.ref b] : List Value).toArray RX10 cX10_init) (hml : c.maxLocals = 1) (hr : meth.sig.returnType = none) (hlocks : meth.locks = false) (hinit : meth.name = "<init>") (hK : zK D cy s) (hbn : b < n) (ls : Array Slot) (H : Heap) (locs : List Loc) (hl : lv_has ls 1 [(0, .ref b)]) (hsz : H.size = n + 25) (hat : va_at D zcl (b, .inr (8, fsM n 25)) H) (hA : zMA D cy n 25 H) (hS : va_S (zcA b n) s.heap H locs) : W p l e (zrx 1 38 2092) s m ([.ref b] : List Value).toArray below meth c H locs 25 760 (MQ below (zqM none (fun H => zW D cy (adM b n) zsM (zS0 845) H ∧ H.size = n + 38) (zcA b n)) ([.ref b] : List Value).toArray s 38 2092 (zcA b n)) (F0 m 204 ls []) := by
  obtain ⟨hx, hb, -, -⟩ := id X
  refine lv_aload_n hx hb dX10_init_204 rfl (lv_at hl 0 rfl) ?_
  refine lv_bipush (v := 120) hx hb dX10_init_205 (by decide) ?_
  refine zkNI (h := n + 25) (N := 120) X hK m_72 (by decide) rfl (Nat.le_of_ble_eq_true rfl) ⟨(Nat.le_of_ble_eq_true rfl), (Nat.le_of_ble_eq_true rfl)⟩ hsz hS dX10_init_207 (fun H hn hz ho hS => ?_)
  replace hat := va_at.kept hat (ho b (by omega))
  replace hA := hA.step (k := 25) (N := 120) rfl ho hn
  refine zkPF X hinit hK hat hS (Or.inl rfl) rfl zin8 tyX10 tyX10_ok nmX10 25 (by decide) rfl rfl rfl m_1131 rfl (ty := .array .int) (by decide +kernel) rfl rfl (by rw [fsM_len]; decide) dX10_init_209 (fun H locs hat hz2 ho hS => ?_)
  rw [fsM_set (by decide)] at hat
  exact zwid (Nat.le_of_ble_eq_true rfl) (Nat.le_of_ble_eq_true rfl) (zim_26 X hml hr hlocks hinit hK hbn ls H locs hl (hz2.trans hz) hat (hA.kept (fun q hq => ho q (by omega))) hS)
set_option maxRecDepth 100000 in
set_option maxHeartbeats 4000000 in
theorem zim_24 (X : zX p m c s ([.ref b] : List Value).toArray RX10 cX10_init) (hml : c.maxLocals = 1) (hr : meth.sig.returnType = none) (hlocks : meth.locks = false) (hinit : meth.name = "<init>") (hK : zK D cy s) (hbn : b < n) (ls : Array Slot) (H : Heap) (locs : List Loc) (hl : lv_has ls 1 [(0, .ref b)]) (hsz : H.size = n + 24) (hat : va_at D zcl (b, .inr (8, fsM n 24)) H) (hA : zMA D cy n 24 H) (hS : va_S (zcA b n) s.heap H locs) : W p l e (zrx 1 38 2092) s m ([.ref b] : List Value).toArray below meth c H locs 24 640 (MQ below (zqM none (fun H => zW D cy (adM b n) zsM (zS0 845) H ∧ H.size = n + 38) (zcA b n)) ([.ref b] : List Value).toArray s 38 2092 (zcA b n)) (F0 m 196 ls []) := by
  obtain ⟨hx, hb, -, -⟩ := id X
  refine lv_aload_n hx hb dX10_init_196 rfl (lv_at hl 0 rfl) ?_
  refine lv_bipush (v := 120) hx hb dX10_init_197 (by decide) ?_
  refine zkNI (h := n + 24) (N := 120) X hK m_72 (by decide) rfl (Nat.le_of_ble_eq_true rfl) ⟨(Nat.le_of_ble_eq_true rfl), (Nat.le_of_ble_eq_true rfl)⟩ hsz hS dX10_init_199 (fun H hn hz ho hS => ?_)
  replace hat := va_at.kept hat (ho b (by omega))
  replace hA := hA.step (k := 24) (N := 120) rfl ho hn
  refine zkPF X hinit hK hat hS (Or.inl rfl) rfl zin8 tyX10 tyX10_ok nmX10 24 (by decide) rfl rfl rfl m_1130 rfl (ty := .array .int) (by decide +kernel) rfl rfl (by rw [fsM_len]; decide) dX10_init_201 (fun H locs hat hz2 ho hS => ?_)
  rw [fsM_set (by decide)] at hat
  exact zwid (Nat.le_of_ble_eq_true rfl) (Nat.le_of_ble_eq_true rfl) (zim_25 X hml hr hlocks hinit hK hbn ls H locs hl (hz2.trans hz) hat (hA.kept (fun q hq => ho q (by omega))) hS)
set_option maxRecDepth 100000 in
set_option maxHeartbeats 4000000 in
theorem zim_23 (X : zX p m c s ([.ref b] : List Value).toArray RX10 cX10_init) (hml : c.maxLocals = 1) (hr : meth.sig.returnType = none) (hlocks : meth.locks = false) (hinit : meth.name = "<init>") (hK : zK D cy s) (hbn : b < n) (ls : Array Slot) (H : Heap) (locs : List Loc) (hl : lv_has ls 1 [(0, .ref b)]) (hsz : H.size = n + 23) (hat : va_at D zcl (b, .inr (8, fsM n 23)) H) (hA : zMA D cy n 23 H) (hS : va_S (zcA b n) s.heap H locs) : W p l e (zrx 1 38 2092) s m ([.ref b] : List Value).toArray below meth c H locs 23 520 (MQ below (zqM none (fun H => zW D cy (adM b n) zsM (zS0 845) H ∧ H.size = n + 38) (zcA b n)) ([.ref b] : List Value).toArray s 38 2092 (zcA b n)) (F0 m 188 ls []) := by
  obtain ⟨hx, hb, -, -⟩ := id X
  refine lv_aload_n hx hb dX10_init_188 rfl (lv_at hl 0 rfl) ?_
  refine lv_bipush (v := 120) hx hb dX10_init_189 (by decide) ?_
  refine zkNI (h := n + 23) (N := 120) X hK m_72 (by decide) rfl (Nat.le_of_ble_eq_true rfl) ⟨(Nat.le_of_ble_eq_true rfl), (Nat.le_of_ble_eq_true rfl)⟩ hsz hS dX10_init_191 (fun H hn hz ho hS => ?_)
  replace hat := va_at.kept hat (ho b (by omega))
  replace hA := hA.step (k := 23) (N := 120) rfl ho hn
  refine zkPF X hinit hK hat hS (Or.inl rfl) rfl zin8 tyX10 tyX10_ok nmX10 23 (by decide) rfl rfl rfl m_1129 rfl (ty := .array .int) (by decide +kernel) rfl rfl (by rw [fsM_len]; decide) dX10_init_193 (fun H locs hat hz2 ho hS => ?_)
  rw [fsM_set (by decide)] at hat
  exact zwid (Nat.le_of_ble_eq_true rfl) (Nat.le_of_ble_eq_true rfl) (zim_24 X hml hr hlocks hinit hK hbn ls H locs hl (hz2.trans hz) hat (hA.kept (fun q hq => ho q (by omega))) hS)
set_option maxRecDepth 100000 in
set_option maxHeartbeats 4000000 in
theorem zim_22 (X : zX p m c s ([.ref b] : List Value).toArray RX10 cX10_init) (hml : c.maxLocals = 1) (hr : meth.sig.returnType = none) (hlocks : meth.locks = false) (hinit : meth.name = "<init>") (hK : zK D cy s) (hbn : b < n) (ls : Array Slot) (H : Heap) (locs : List Loc) (hl : lv_has ls 1 [(0, .ref b)]) (hsz : H.size = n + 22) (hat : va_at D zcl (b, .inr (8, fsM n 22)) H) (hA : zMA D cy n 22 H) (hS : va_S (zcA b n) s.heap H locs) : W p l e (zrx 1 38 2092) s m ([.ref b] : List Value).toArray below meth c H locs 22 496 (MQ below (zqM none (fun H => zW D cy (adM b n) zsM (zS0 845) H ∧ H.size = n + 38) (zcA b n)) ([.ref b] : List Value).toArray s 38 2092 (zcA b n)) (F0 m 180 ls []) := by
  obtain ⟨hx, hb, -, -⟩ := id X
  refine lv_aload_n hx hb dX10_init_180 rfl (lv_at hl 0 rfl) ?_
  refine lv_bipush (v := 24) hx hb dX10_init_181 (by decide) ?_
  refine zkNI (h := n + 22) (N := 24) X hK m_72 (by decide) rfl (Nat.le_of_ble_eq_true rfl) ⟨(Nat.le_of_ble_eq_true rfl), (Nat.le_of_ble_eq_true rfl)⟩ hsz hS dX10_init_183 (fun H hn hz ho hS => ?_)
  replace hat := va_at.kept hat (ho b (by omega))
  replace hA := hA.step (k := 22) (N := 24) rfl ho hn
  refine zkPF X hinit hK hat hS (Or.inl rfl) rfl zin8 tyX10 tyX10_ok nmX10 22 (by decide) rfl rfl rfl m_1128 rfl (ty := .array .int) (by decide +kernel) rfl rfl (by rw [fsM_len]; decide) dX10_init_185 (fun H locs hat hz2 ho hS => ?_)
  rw [fsM_set (by decide)] at hat
  exact zwid (Nat.le_of_ble_eq_true rfl) (Nat.le_of_ble_eq_true rfl) (zim_23 X hml hr hlocks hinit hK hbn ls H locs hl (hz2.trans hz) hat (hA.kept (fun q hq => ho q (by omega))) hS)
set_option maxRecDepth 100000 in
set_option maxHeartbeats 4000000 in
theorem zim_21 (X : zX p m c s ([.ref b] : List Value).toArray RX10 cX10_init) (hml : c.maxLocals = 1) (hr : meth.sig.returnType = none) (hlocks : meth.locks = false) (hinit : meth.name = "<init>") (hK : zK D cy s) (hbn : b < n) (ls : Array Slot) (H : Heap) (locs : List Loc) (hl : lv_has ls 1 [(0, .ref b)]) (hsz : H.size = n + 21) (hat : va_at D zcl (b, .inr (8, fsM n 21)) H) (hA : zMA D cy n 21 H) (hS : va_S (zcA b n) s.heap H locs) : W p l e (zrx 1 38 2092) s m ([.ref b] : List Value).toArray below meth c H locs 21 472 (MQ below (zqM none (fun H => zW D cy (adM b n) zsM (zS0 845) H ∧ H.size = n + 38) (zcA b n)) ([.ref b] : List Value).toArray s 38 2092 (zcA b n)) (F0 m 172 ls []) := by
  obtain ⟨hx, hb, -, -⟩ := id X
  refine lv_aload_n hx hb dX10_init_172 rfl (lv_at hl 0 rfl) ?_
  refine lv_bipush (v := 24) hx hb dX10_init_173 (by decide) ?_
  refine zkNI (h := n + 21) (N := 24) X hK m_72 (by decide) rfl (Nat.le_of_ble_eq_true rfl) ⟨(Nat.le_of_ble_eq_true rfl), (Nat.le_of_ble_eq_true rfl)⟩ hsz hS dX10_init_175 (fun H hn hz ho hS => ?_)
  replace hat := va_at.kept hat (ho b (by omega))
  replace hA := hA.step (k := 21) (N := 24) rfl ho hn
  refine zkPF X hinit hK hat hS (Or.inl rfl) rfl zin8 tyX10 tyX10_ok nmX10 21 (by decide) rfl rfl rfl m_1127 rfl (ty := .array .int) (by decide +kernel) rfl rfl (by rw [fsM_len]; decide) dX10_init_177 (fun H locs hat hz2 ho hS => ?_)
  rw [fsM_set (by decide)] at hat
  exact zwid (Nat.le_of_ble_eq_true rfl) (Nat.le_of_ble_eq_true rfl) (zim_22 X hml hr hlocks hinit hK hbn ls H locs hl (hz2.trans hz) hat (hA.kept (fun q hq => ho q (by omega))) hS)
set_option maxRecDepth 100000 in
set_option maxHeartbeats 4000000 in
theorem zim_20 (X : zX p m c s ([.ref b] : List Value).toArray RX10 cX10_init) (hml : c.maxLocals = 1) (hr : meth.sig.returnType = none) (hlocks : meth.locks = false) (hinit : meth.name = "<init>") (hK : zK D cy s) (hbn : b < n) (ls : Array Slot) (H : Heap) (locs : List Loc) (hl : lv_has ls 1 [(0, .ref b)]) (hsz : H.size = n + 20) (hat : va_at D zcl (b, .inr (8, fsM n 20)) H) (hA : zMA D cy n 20 H) (hS : va_S (zcA b n) s.heap H locs) : W p l e (zrx 1 38 2092) s m ([.ref b] : List Value).toArray below meth c H locs 20 448 (MQ below (zqM none (fun H => zW D cy (adM b n) zsM (zS0 845) H ∧ H.size = n + 38) (zcA b n)) ([.ref b] : List Value).toArray s 38 2092 (zcA b n)) (F0 m 164 ls []) := by
  obtain ⟨hx, hb, -, -⟩ := id X
  refine lv_aload_n hx hb dX10_init_164 rfl (lv_at hl 0 rfl) ?_
  refine lv_bipush (v := 24) hx hb dX10_init_165 (by decide) ?_
  refine zkNI (h := n + 20) (N := 24) X hK m_72 (by decide) rfl (Nat.le_of_ble_eq_true rfl) ⟨(Nat.le_of_ble_eq_true rfl), (Nat.le_of_ble_eq_true rfl)⟩ hsz hS dX10_init_167 (fun H hn hz ho hS => ?_)
  replace hat := va_at.kept hat (ho b (by omega))
  replace hA := hA.step (k := 20) (N := 24) rfl ho hn
  refine zkPF X hinit hK hat hS (Or.inl rfl) rfl zin8 tyX10 tyX10_ok nmX10 20 (by decide) rfl rfl rfl m_1126 rfl (ty := .array .int) (by decide +kernel) rfl rfl (by rw [fsM_len]; decide) dX10_init_169 (fun H locs hat hz2 ho hS => ?_)
  rw [fsM_set (by decide)] at hat
  exact zwid (Nat.le_of_ble_eq_true rfl) (Nat.le_of_ble_eq_true rfl) (zim_21 X hml hr hlocks hinit hK hbn ls H locs hl (hz2.trans hz) hat (hA.kept (fun q hq => ho q (by omega))) hS)
set_option maxRecDepth 100000 in
set_option maxHeartbeats 4000000 in
theorem zim_19 (X : zX p m c s ([.ref b] : List Value).toArray RX10 cX10_init) (hml : c.maxLocals = 1) (hr : meth.sig.returnType = none) (hlocks : meth.locks = false) (hinit : meth.name = "<init>") (hK : zK D cy s) (hbn : b < n) (ls : Array Slot) (H : Heap) (locs : List Loc) (hl : lv_has ls 1 [(0, .ref b)]) (hsz : H.size = n + 19) (hat : va_at D zcl (b, .inr (8, fsM n 19)) H) (hA : zMA D cy n 19 H) (hS : va_S (zcA b n) s.heap H locs) : W p l e (zrx 1 38 2092) s m ([.ref b] : List Value).toArray below meth c H locs 19 424 (MQ below (zqM none (fun H => zW D cy (adM b n) zsM (zS0 845) H ∧ H.size = n + 38) (zcA b n)) ([.ref b] : List Value).toArray s 38 2092 (zcA b n)) (F0 m 156 ls []) := by
  obtain ⟨hx, hb, -, -⟩ := id X
  refine lv_aload_n hx hb dX10_init_156 rfl (lv_at hl 0 rfl) ?_
  refine lv_bipush (v := 24) hx hb dX10_init_157 (by decide) ?_
  refine zkNI (h := n + 19) (N := 24) X hK m_72 (by decide) rfl (Nat.le_of_ble_eq_true rfl) ⟨(Nat.le_of_ble_eq_true rfl), (Nat.le_of_ble_eq_true rfl)⟩ hsz hS dX10_init_159 (fun H hn hz ho hS => ?_)
  replace hat := va_at.kept hat (ho b (by omega))
  replace hA := hA.step (k := 19) (N := 24) rfl ho hn
  refine zkPF X hinit hK hat hS (Or.inl rfl) rfl zin8 tyX10 tyX10_ok nmX10 19 (by decide) rfl rfl rfl m_1125 rfl (ty := .array .int) (by decide +kernel) rfl rfl (by rw [fsM_len]; decide) dX10_init_161 (fun H locs hat hz2 ho hS => ?_)
  rw [fsM_set (by decide)] at hat
  exact zwid (Nat.le_of_ble_eq_true rfl) (Nat.le_of_ble_eq_true rfl) (zim_20 X hml hr hlocks hinit hK hbn ls H locs hl (hz2.trans hz) hat (hA.kept (fun q hq => ho q (by omega))) hS)
set_option maxRecDepth 100000 in
set_option maxHeartbeats 4000000 in
theorem zim_18 (X : zX p m c s ([.ref b] : List Value).toArray RX10 cX10_init) (hml : c.maxLocals = 1) (hr : meth.sig.returnType = none) (hlocks : meth.locks = false) (hinit : meth.name = "<init>") (hK : zK D cy s) (hbn : b < n) (ls : Array Slot) (H : Heap) (locs : List Loc) (hl : lv_has ls 1 [(0, .ref b)]) (hsz : H.size = n + 18) (hat : va_at D zcl (b, .inr (8, fsM n 18)) H) (hA : zMA D cy n 18 H) (hS : va_S (zcA b n) s.heap H locs) : W p l e (zrx 1 38 2092) s m ([.ref b] : List Value).toArray below meth c H locs 18 400 (MQ below (zqM none (fun H => zW D cy (adM b n) zsM (zS0 845) H ∧ H.size = n + 38) (zcA b n)) ([.ref b] : List Value).toArray s 38 2092 (zcA b n)) (F0 m 148 ls []) := by
  obtain ⟨hx, hb, -, -⟩ := id X
  refine lv_aload_n hx hb dX10_init_148 rfl (lv_at hl 0 rfl) ?_
  refine lv_bipush (v := 24) hx hb dX10_init_149 (by decide) ?_
  refine zkNI (h := n + 18) (N := 24) X hK m_72 (by decide) rfl (Nat.le_of_ble_eq_true rfl) ⟨(Nat.le_of_ble_eq_true rfl), (Nat.le_of_ble_eq_true rfl)⟩ hsz hS dX10_init_151 (fun H hn hz ho hS => ?_)
  replace hat := va_at.kept hat (ho b (by omega))
  replace hA := hA.step (k := 18) (N := 24) rfl ho hn
  refine zkPF X hinit hK hat hS (Or.inl rfl) rfl zin8 tyX10 tyX10_ok nmX10 18 (by decide) rfl rfl rfl m_1124 rfl (ty := .array .int) (by decide +kernel) rfl rfl (by rw [fsM_len]; decide) dX10_init_153 (fun H locs hat hz2 ho hS => ?_)
  rw [fsM_set (by decide)] at hat
  exact zwid (Nat.le_of_ble_eq_true rfl) (Nat.le_of_ble_eq_true rfl) (zim_19 X hml hr hlocks hinit hK hbn ls H locs hl (hz2.trans hz) hat (hA.kept (fun q hq => ho q (by omega))) hS)
set_option maxRecDepth 100000 in
set_option maxHeartbeats 4000000 in
theorem zim_17 (X : zX p m c s ([.ref b] : List Value).toArray RX10 cX10_init) (hml : c.maxLocals = 1) (hr : meth.sig.returnType = none) (hlocks : meth.locks = false) (hinit : meth.name = "<init>") (hK : zK D cy s) (hbn : b < n) (ls : Array Slot) (H : Heap) (locs : List Loc) (hl : lv_has ls 1 [(0, .ref b)]) (hsz : H.size = n + 17) (hat : va_at D zcl (b, .inr (8, fsM n 17)) H) (hA : zMA D cy n 17 H) (hS : va_S (zcA b n) s.heap H locs) : W p l e (zrx 1 38 2092) s m ([.ref b] : List Value).toArray below meth c H locs 17 376 (MQ below (zqM none (fun H => zW D cy (adM b n) zsM (zS0 845) H ∧ H.size = n + 38) (zcA b n)) ([.ref b] : List Value).toArray s 38 2092 (zcA b n)) (F0 m 140 ls []) := by
  obtain ⟨hx, hb, -, -⟩ := id X
  refine lv_aload_n hx hb dX10_init_140 rfl (lv_at hl 0 rfl) ?_
  refine lv_bipush (v := 24) hx hb dX10_init_141 (by decide) ?_
  refine zkNI (h := n + 17) (N := 24) X hK m_72 (by decide) rfl (Nat.le_of_ble_eq_true rfl) ⟨(Nat.le_of_ble_eq_true rfl), (Nat.le_of_ble_eq_true rfl)⟩ hsz hS dX10_init_143 (fun H hn hz ho hS => ?_)
  replace hat := va_at.kept hat (ho b (by omega))
  replace hA := hA.step (k := 17) (N := 24) rfl ho hn
  refine zkPF X hinit hK hat hS (Or.inl rfl) rfl zin8 tyX10 tyX10_ok nmX10 17 (by decide) rfl rfl rfl m_1123 rfl (ty := .array .int) (by decide +kernel) rfl rfl (by rw [fsM_len]; decide) dX10_init_145 (fun H locs hat hz2 ho hS => ?_)
  rw [fsM_set (by decide)] at hat
  exact zwid (Nat.le_of_ble_eq_true rfl) (Nat.le_of_ble_eq_true rfl) (zim_18 X hml hr hlocks hinit hK hbn ls H locs hl (hz2.trans hz) hat (hA.kept (fun q hq => ho q (by omega))) hS)
set_option maxRecDepth 100000 in
set_option maxHeartbeats 4000000 in
theorem zim_16 (X : zX p m c s ([.ref b] : List Value).toArray RX10 cX10_init) (hml : c.maxLocals = 1) (hr : meth.sig.returnType = none) (hlocks : meth.locks = false) (hinit : meth.name = "<init>") (hK : zK D cy s) (hbn : b < n) (ls : Array Slot) (H : Heap) (locs : List Loc) (hl : lv_has ls 1 [(0, .ref b)]) (hsz : H.size = n + 16) (hat : va_at D zcl (b, .inr (8, fsM n 16)) H) (hA : zMA D cy n 16 H) (hS : va_S (zcA b n) s.heap H locs) : W p l e (zrx 1 38 2092) s m ([.ref b] : List Value).toArray below meth c H locs 16 352 (MQ below (zqM none (fun H => zW D cy (adM b n) zsM (zS0 845) H ∧ H.size = n + 38) (zcA b n)) ([.ref b] : List Value).toArray s 38 2092 (zcA b n)) (F0 m 132 ls []) := by
  obtain ⟨hx, hb, -, -⟩ := id X
  refine lv_aload_n hx hb dX10_init_132 rfl (lv_at hl 0 rfl) ?_
  refine lv_bipush (v := 24) hx hb dX10_init_133 (by decide) ?_
  refine zkNI (h := n + 16) (N := 24) X hK m_72 (by decide) rfl (Nat.le_of_ble_eq_true rfl) ⟨(Nat.le_of_ble_eq_true rfl), (Nat.le_of_ble_eq_true rfl)⟩ hsz hS dX10_init_135 (fun H hn hz ho hS => ?_)
  replace hat := va_at.kept hat (ho b (by omega))
  replace hA := hA.step (k := 16) (N := 24) rfl ho hn
  refine zkPF X hinit hK hat hS (Or.inl rfl) rfl zin8 tyX10 tyX10_ok nmX10 16 (by decide) rfl rfl rfl m_1122 rfl (ty := .array .int) (by decide +kernel) rfl rfl (by rw [fsM_len]; decide) dX10_init_137 (fun H locs hat hz2 ho hS => ?_)
  rw [fsM_set (by decide)] at hat
  exact zwid (Nat.le_of_ble_eq_true rfl) (Nat.le_of_ble_eq_true rfl) (zim_17 X hml hr hlocks hinit hK hbn ls H locs hl (hz2.trans hz) hat (hA.kept (fun q hq => ho q (by omega))) hS)
set_option maxRecDepth 100000 in
set_option maxHeartbeats 4000000 in
theorem zim_15 (X : zX p m c s ([.ref b] : List Value).toArray RX10 cX10_init) (hml : c.maxLocals = 1) (hr : meth.sig.returnType = none) (hlocks : meth.locks = false) (hinit : meth.name = "<init>") (hK : zK D cy s) (hbn : b < n) (ls : Array Slot) (H : Heap) (locs : List Loc) (hl : lv_has ls 1 [(0, .ref b)]) (hsz : H.size = n + 15) (hat : va_at D zcl (b, .inr (8, fsM n 15)) H) (hA : zMA D cy n 15 H) (hS : va_S (zcA b n) s.heap H locs) : W p l e (zrx 1 38 2092) s m ([.ref b] : List Value).toArray below meth c H locs 15 328 (MQ below (zqM none (fun H => zW D cy (adM b n) zsM (zS0 845) H ∧ H.size = n + 38) (zcA b n)) ([.ref b] : List Value).toArray s 38 2092 (zcA b n)) (F0 m 124 ls []) := by
  obtain ⟨hx, hb, -, -⟩ := id X
  refine lv_aload_n hx hb dX10_init_124 rfl (lv_at hl 0 rfl) ?_
  refine lv_bipush (v := 24) hx hb dX10_init_125 (by decide) ?_
  refine zkNI (h := n + 15) (N := 24) X hK m_72 (by decide) rfl (Nat.le_of_ble_eq_true rfl) ⟨(Nat.le_of_ble_eq_true rfl), (Nat.le_of_ble_eq_true rfl)⟩ hsz hS dX10_init_127 (fun H hn hz ho hS => ?_)
  replace hat := va_at.kept hat (ho b (by omega))
  replace hA := hA.step (k := 15) (N := 24) rfl ho hn
  refine zkPF X hinit hK hat hS (Or.inl rfl) rfl zin8 tyX10 tyX10_ok nmX10 15 (by decide) rfl rfl rfl m_1121 rfl (ty := .array .int) (by decide +kernel) rfl rfl (by rw [fsM_len]; decide) dX10_init_129 (fun H locs hat hz2 ho hS => ?_)
  rw [fsM_set (by decide)] at hat
  exact zwid (Nat.le_of_ble_eq_true rfl) (Nat.le_of_ble_eq_true rfl) (zim_16 X hml hr hlocks hinit hK hbn ls H locs hl (hz2.trans hz) hat (hA.kept (fun q hq => ho q (by omega))) hS)
set_option maxRecDepth 100000 in
set_option maxHeartbeats 4000000 in
theorem zim_14 (X : zX p m c s ([.ref b] : List Value).toArray RX10 cX10_init) (hml : c.maxLocals = 1) (hr : meth.sig.returnType = none) (hlocks : meth.locks = false) (hinit : meth.name = "<init>") (hK : zK D cy s) (hbn : b < n) (ls : Array Slot) (H : Heap) (locs : List Loc) (hl : lv_has ls 1 [(0, .ref b)]) (hsz : H.size = n + 14) (hat : va_at D zcl (b, .inr (8, fsM n 14)) H) (hA : zMA D cy n 14 H) (hS : va_S (zcA b n) s.heap H locs) : W p l e (zrx 1 38 2092) s m ([.ref b] : List Value).toArray below meth c H locs 14 304 (MQ below (zqM none (fun H => zW D cy (adM b n) zsM (zS0 845) H ∧ H.size = n + 38) (zcA b n)) ([.ref b] : List Value).toArray s 38 2092 (zcA b n)) (F0 m 116 ls []) := by
  obtain ⟨hx, hb, -, -⟩ := id X
  refine lv_aload_n hx hb dX10_init_116 rfl (lv_at hl 0 rfl) ?_
  refine lv_bipush (v := 24) hx hb dX10_init_117 (by decide) ?_
  refine zkNI (h := n + 14) (N := 24) X hK m_72 (by decide) rfl (Nat.le_of_ble_eq_true rfl) ⟨(Nat.le_of_ble_eq_true rfl), (Nat.le_of_ble_eq_true rfl)⟩ hsz hS dX10_init_119 (fun H hn hz ho hS => ?_)
  replace hat := va_at.kept hat (ho b (by omega))
  replace hA := hA.step (k := 14) (N := 24) rfl ho hn
  refine zkPF X hinit hK hat hS (Or.inl rfl) rfl zin8 tyX10 tyX10_ok nmX10 14 (by decide) rfl rfl rfl m_1120 rfl (ty := .array .int) (by decide +kernel) rfl rfl (by rw [fsM_len]; decide) dX10_init_121 (fun H locs hat hz2 ho hS => ?_)
  rw [fsM_set (by decide)] at hat
  exact zwid (Nat.le_of_ble_eq_true rfl) (Nat.le_of_ble_eq_true rfl) (zim_15 X hml hr hlocks hinit hK hbn ls H locs hl (hz2.trans hz) hat (hA.kept (fun q hq => ho q (by omega))) hS)
set_option maxRecDepth 100000 in
set_option maxHeartbeats 4000000 in
theorem zim_13 (X : zX p m c s ([.ref b] : List Value).toArray RX10 cX10_init) (hml : c.maxLocals = 1) (hr : meth.sig.returnType = none) (hlocks : meth.locks = false) (hinit : meth.name = "<init>") (hK : zK D cy s) (hbn : b < n) (ls : Array Slot) (H : Heap) (locs : List Loc) (hl : lv_has ls 1 [(0, .ref b)]) (hsz : H.size = n + 13) (hat : va_at D zcl (b, .inr (8, fsM n 13)) H) (hA : zMA D cy n 13 H) (hS : va_S (zcA b n) s.heap H locs) : W p l e (zrx 1 38 2092) s m ([.ref b] : List Value).toArray below meth c H locs 13 280 (MQ below (zqM none (fun H => zW D cy (adM b n) zsM (zS0 845) H ∧ H.size = n + 38) (zcA b n)) ([.ref b] : List Value).toArray s 38 2092 (zcA b n)) (F0 m 108 ls []) := by
  obtain ⟨hx, hb, -, -⟩ := id X
  refine lv_aload_n hx hb dX10_init_108 rfl (lv_at hl 0 rfl) ?_
  refine lv_bipush (v := 24) hx hb dX10_init_109 (by decide) ?_
  refine zkNI (h := n + 13) (N := 24) X hK m_72 (by decide) rfl (Nat.le_of_ble_eq_true rfl) ⟨(Nat.le_of_ble_eq_true rfl), (Nat.le_of_ble_eq_true rfl)⟩ hsz hS dX10_init_111 (fun H hn hz ho hS => ?_)
  replace hat := va_at.kept hat (ho b (by omega))
  replace hA := hA.step (k := 13) (N := 24) rfl ho hn
  refine zkPF X hinit hK hat hS (Or.inl rfl) rfl zin8 tyX10 tyX10_ok nmX10 13 (by decide) rfl rfl rfl m_1119 rfl (ty := .array .int) (by decide +kernel) rfl rfl (by rw [fsM_len]; decide) dX10_init_113 (fun H locs hat hz2 ho hS => ?_)
  rw [fsM_set (by decide)] at hat
  exact zwid (Nat.le_of_ble_eq_true rfl) (Nat.le_of_ble_eq_true rfl) (zim_14 X hml hr hlocks hinit hK hbn ls H locs hl (hz2.trans hz) hat (hA.kept (fun q hq => ho q (by omega))) hS)
set_option maxRecDepth 100000 in
set_option maxHeartbeats 4000000 in
theorem zim_12 (X : zX p m c s ([.ref b] : List Value).toArray RX10 cX10_init) (hml : c.maxLocals = 1) (hr : meth.sig.returnType = none) (hlocks : meth.locks = false) (hinit : meth.name = "<init>") (hK : zK D cy s) (hbn : b < n) (ls : Array Slot) (H : Heap) (locs : List Loc) (hl : lv_has ls 1 [(0, .ref b)]) (hsz : H.size = n + 12) (hat : va_at D zcl (b, .inr (8, fsM n 12)) H) (hA : zMA D cy n 12 H) (hS : va_S (zcA b n) s.heap H locs) : W p l e (zrx 1 38 2092) s m ([.ref b] : List Value).toArray below meth c H locs 12 256 (MQ below (zqM none (fun H => zW D cy (adM b n) zsM (zS0 845) H ∧ H.size = n + 38) (zcA b n)) ([.ref b] : List Value).toArray s 38 2092 (zcA b n)) (F0 m 100 ls []) := by
  obtain ⟨hx, hb, -, -⟩ := id X
  refine lv_aload_n hx hb dX10_init_100 rfl (lv_at hl 0 rfl) ?_
  refine lv_bipush (v := 24) hx hb dX10_init_101 (by decide) ?_
  refine zkNI (h := n + 12) (N := 24) X hK m_72 (by decide) rfl (Nat.le_of_ble_eq_true rfl) ⟨(Nat.le_of_ble_eq_true rfl), (Nat.le_of_ble_eq_true rfl)⟩ hsz hS dX10_init_103 (fun H hn hz ho hS => ?_)
  replace hat := va_at.kept hat (ho b (by omega))
  replace hA := hA.step (k := 12) (N := 24) rfl ho hn
  refine zkPF X hinit hK hat hS (Or.inl rfl) rfl zin8 tyX10 tyX10_ok nmX10 12 (by decide) rfl rfl rfl m_1118 rfl (ty := .array .int) (by decide +kernel) rfl rfl (by rw [fsM_len]; decide) dX10_init_105 (fun H locs hat hz2 ho hS => ?_)
  rw [fsM_set (by decide)] at hat
  exact zwid (Nat.le_of_ble_eq_true rfl) (Nat.le_of_ble_eq_true rfl) (zim_13 X hml hr hlocks hinit hK hbn ls H locs hl (hz2.trans hz) hat (hA.kept (fun q hq => ho q (by omega))) hS)
set_option maxRecDepth 100000 in
set_option maxHeartbeats 4000000 in
theorem zim_11 (X : zX p m c s ([.ref b] : List Value).toArray RX10 cX10_init) (hml : c.maxLocals = 1) (hr : meth.sig.returnType = none) (hlocks : meth.locks = false) (hinit : meth.name = "<init>") (hK : zK D cy s) (hbn : b < n) (ls : Array Slot) (H : Heap) (locs : List Loc) (hl : lv_has ls 1 [(0, .ref b)]) (hsz : H.size = n + 11) (hat : va_at D zcl (b, .inr (8, fsM n 11)) H) (hA : zMA D cy n 11 H) (hS : va_S (zcA b n) s.heap H locs) : W p l e (zrx 1 38 2092) s m ([.ref b] : List Value).toArray below meth c H locs 11 232 (MQ below (zqM none (fun H => zW D cy (adM b n) zsM (zS0 845) H ∧ H.size = n + 38) (zcA b n)) ([.ref b] : List Value).toArray s 38 2092 (zcA b n)) (F0 m 92 ls []) := by
  obtain ⟨hx, hb, -, -⟩ := id X
  refine lv_aload_n hx hb dX10_init_92 rfl (lv_at hl 0 rfl) ?_
  refine lv_bipush (v := 24) hx hb dX10_init_93 (by decide) ?_
  refine zkNI (h := n + 11) (N := 24) X hK m_72 (by decide) rfl (Nat.le_of_ble_eq_true rfl) ⟨(Nat.le_of_ble_eq_true rfl), (Nat.le_of_ble_eq_true rfl)⟩ hsz hS dX10_init_95 (fun H hn hz ho hS => ?_)
  replace hat := va_at.kept hat (ho b (by omega))
  replace hA := hA.step (k := 11) (N := 24) rfl ho hn
  refine zkPF X hinit hK hat hS (Or.inl rfl) rfl zin8 tyX10 tyX10_ok nmX10 11 (by decide) rfl rfl rfl m_1117 rfl (ty := .array .int) (by decide +kernel) rfl rfl (by rw [fsM_len]; decide) dX10_init_97 (fun H locs hat hz2 ho hS => ?_)
  rw [fsM_set (by decide)] at hat
  exact zwid (Nat.le_of_ble_eq_true rfl) (Nat.le_of_ble_eq_true rfl) (zim_12 X hml hr hlocks hinit hK hbn ls H locs hl (hz2.trans hz) hat (hA.kept (fun q hq => ho q (by omega))) hS)
set_option maxRecDepth 100000 in
set_option maxHeartbeats 4000000 in
theorem zim_10 (X : zX p m c s ([.ref b] : List Value).toArray RX10 cX10_init) (hml : c.maxLocals = 1) (hr : meth.sig.returnType = none) (hlocks : meth.locks = false) (hinit : meth.name = "<init>") (hK : zK D cy s) (hbn : b < n) (ls : Array Slot) (H : Heap) (locs : List Loc) (hl : lv_has ls 1 [(0, .ref b)]) (hsz : H.size = n + 10) (hat : va_at D zcl (b, .inr (8, fsM n 10)) H) (hA : zMA D cy n 10 H) (hS : va_S (zcA b n) s.heap H locs) : W p l e (zrx 1 38 2092) s m ([.ref b] : List Value).toArray below meth c H locs 10 208 (MQ below (zqM none (fun H => zW D cy (adM b n) zsM (zS0 845) H ∧ H.size = n + 38) (zcA b n)) ([.ref b] : List Value).toArray s 38 2092 (zcA b n)) (F0 m 84 ls []) := by
  obtain ⟨hx, hb, -, -⟩ := id X
  refine lv_aload_n hx hb dX10_init_84 rfl (lv_at hl 0 rfl) ?_
  refine lv_bipush (v := 24) hx hb dX10_init_85 (by decide) ?_
  refine zkNI (h := n + 10) (N := 24) X hK m_72 (by decide) rfl (Nat.le_of_ble_eq_true rfl) ⟨(Nat.le_of_ble_eq_true rfl), (Nat.le_of_ble_eq_true rfl)⟩ hsz hS dX10_init_87 (fun H hn hz ho hS => ?_)
  replace hat := va_at.kept hat (ho b (by omega))
  replace hA := hA.step (k := 10) (N := 24) rfl ho hn
  refine zkPF X hinit hK hat hS (Or.inl rfl) rfl zin8 tyX10 tyX10_ok nmX10 10 (by decide) rfl rfl rfl m_1116 rfl (ty := .array .int) (by decide +kernel) rfl rfl (by rw [fsM_len]; decide) dX10_init_89 (fun H locs hat hz2 ho hS => ?_)
  rw [fsM_set (by decide)] at hat
  exact zwid (Nat.le_of_ble_eq_true rfl) (Nat.le_of_ble_eq_true rfl) (zim_11 X hml hr hlocks hinit hK hbn ls H locs hl (hz2.trans hz) hat (hA.kept (fun q hq => ho q (by omega))) hS)
set_option maxRecDepth 100000 in
set_option maxHeartbeats 4000000 in
theorem zim_9 (X : zX p m c s ([.ref b] : List Value).toArray RX10 cX10_init) (hml : c.maxLocals = 1) (hr : meth.sig.returnType = none) (hlocks : meth.locks = false) (hinit : meth.name = "<init>") (hK : zK D cy s) (hbn : b < n) (ls : Array Slot) (H : Heap) (locs : List Loc) (hl : lv_has ls 1 [(0, .ref b)]) (hsz : H.size = n + 9) (hat : va_at D zcl (b, .inr (8, fsM n 9)) H) (hA : zMA D cy n 9 H) (hS : va_S (zcA b n) s.heap H locs) : W p l e (zrx 1 38 2092) s m ([.ref b] : List Value).toArray below meth c H locs 9 184 (MQ below (zqM none (fun H => zW D cy (adM b n) zsM (zS0 845) H ∧ H.size = n + 38) (zcA b n)) ([.ref b] : List Value).toArray s 38 2092 (zcA b n)) (F0 m 76 ls []) := by
  obtain ⟨hx, hb, -, -⟩ := id X
  refine lv_aload_n hx hb dX10_init_76 rfl (lv_at hl 0 rfl) ?_
  refine lv_bipush (v := 24) hx hb dX10_init_77 (by decide) ?_
  refine zkNI (h := n + 9) (N := 24) X hK m_72 (by decide) rfl (Nat.le_of_ble_eq_true rfl) ⟨(Nat.le_of_ble_eq_true rfl), (Nat.le_of_ble_eq_true rfl)⟩ hsz hS dX10_init_79 (fun H hn hz ho hS => ?_)
  replace hat := va_at.kept hat (ho b (by omega))
  replace hA := hA.step (k := 9) (N := 24) rfl ho hn
  refine zkPF X hinit hK hat hS (Or.inl rfl) rfl zin8 tyX10 tyX10_ok nmX10 9 (by decide) rfl rfl rfl m_1115 rfl (ty := .array .int) (by decide +kernel) rfl rfl (by rw [fsM_len]; decide) dX10_init_81 (fun H locs hat hz2 ho hS => ?_)
  rw [fsM_set (by decide)] at hat
  exact zwid (Nat.le_of_ble_eq_true rfl) (Nat.le_of_ble_eq_true rfl) (zim_10 X hml hr hlocks hinit hK hbn ls H locs hl (hz2.trans hz) hat (hA.kept (fun q hq => ho q (by omega))) hS)
set_option maxRecDepth 100000 in
set_option maxHeartbeats 4000000 in
theorem zim_8 (X : zX p m c s ([.ref b] : List Value).toArray RX10 cX10_init) (hml : c.maxLocals = 1) (hr : meth.sig.returnType = none) (hlocks : meth.locks = false) (hinit : meth.name = "<init>") (hK : zK D cy s) (hbn : b < n) (ls : Array Slot) (H : Heap) (locs : List Loc) (hl : lv_has ls 1 [(0, .ref b)]) (hsz : H.size = n + 8) (hat : va_at D zcl (b, .inr (8, fsM n 8)) H) (hA : zMA D cy n 8 H) (hS : va_S (zcA b n) s.heap H locs) : W p l e (zrx 1 38 2092) s m ([.ref b] : List Value).toArray below meth c H locs 8 160 (MQ below (zqM none (fun H => zW D cy (adM b n) zsM (zS0 845) H ∧ H.size = n + 38) (zcA b n)) ([.ref b] : List Value).toArray s 38 2092 (zcA b n)) (F0 m 68 ls []) := by
  obtain ⟨hx, hb, -, -⟩ := id X
  refine lv_aload_n hx hb dX10_init_68 rfl (lv_at hl 0 rfl) ?_
  refine lv_bipush (v := 24) hx hb dX10_init_69 (by decide) ?_
  refine zkNI (h := n + 8) (N := 24) X hK m_72 (by decide) rfl (Nat.le_of_ble_eq_true rfl) ⟨(Nat.le_of_ble_eq_true rfl), (Nat.le_of_ble_eq_true rfl)⟩ hsz hS dX10_init_71 (fun H hn hz ho hS => ?_)
  replace hat := va_at.kept hat (ho b (by omega))
  replace hA := hA.step (k := 8) (N := 24) rfl ho hn
  refine zkPF X hinit hK hat hS (Or.inl rfl) rfl zin8 tyX10 tyX10_ok nmX10 8 (by decide) rfl rfl rfl m_1114 rfl (ty := .array .int) (by decide +kernel) rfl rfl (by rw [fsM_len]; decide) dX10_init_73 (fun H locs hat hz2 ho hS => ?_)
  rw [fsM_set (by decide)] at hat
  exact zwid (Nat.le_of_ble_eq_true rfl) (Nat.le_of_ble_eq_true rfl) (zim_9 X hml hr hlocks hinit hK hbn ls H locs hl (hz2.trans hz) hat (hA.kept (fun q hq => ho q (by omega))) hS)
set_option maxRecDepth 100000 in
set_option maxHeartbeats 4000000 in
theorem zim_7 (X : zX p m c s ([.ref b] : List Value).toArray RX10 cX10_init) (hml : c.maxLocals = 1) (hr : meth.sig.returnType = none) (hlocks : meth.locks = false) (hinit : meth.name = "<init>") (hK : zK D cy s) (hbn : b < n) (ls : Array Slot) (H : Heap) (locs : List Loc) (hl : lv_has ls 1 [(0, .ref b)]) (hsz : H.size = n + 7) (hat : va_at D zcl (b, .inr (8, fsM n 7)) H) (hA : zMA D cy n 7 H) (hS : va_S (zcA b n) s.heap H locs) : W p l e (zrx 1 38 2092) s m ([.ref b] : List Value).toArray below meth c H locs 7 136 (MQ below (zqM none (fun H => zW D cy (adM b n) zsM (zS0 845) H ∧ H.size = n + 38) (zcA b n)) ([.ref b] : List Value).toArray s 38 2092 (zcA b n)) (F0 m 60 ls []) := by
  obtain ⟨hx, hb, -, -⟩ := id X
  refine lv_aload_n hx hb dX10_init_60 rfl (lv_at hl 0 rfl) ?_
  refine lv_bipush (v := 24) hx hb dX10_init_61 (by decide) ?_
  refine zkNI (h := n + 7) (N := 24) X hK m_72 (by decide) rfl (Nat.le_of_ble_eq_true rfl) ⟨(Nat.le_of_ble_eq_true rfl), (Nat.le_of_ble_eq_true rfl)⟩ hsz hS dX10_init_63 (fun H hn hz ho hS => ?_)
  replace hat := va_at.kept hat (ho b (by omega))
  replace hA := hA.step (k := 7) (N := 24) rfl ho hn
  refine zkPF X hinit hK hat hS (Or.inl rfl) rfl zin8 tyX10 tyX10_ok nmX10 7 (by decide) rfl rfl rfl m_1113 rfl (ty := .array .int) (by decide +kernel) rfl rfl (by rw [fsM_len]; decide) dX10_init_65 (fun H locs hat hz2 ho hS => ?_)
  rw [fsM_set (by decide)] at hat
  exact zwid (Nat.le_of_ble_eq_true rfl) (Nat.le_of_ble_eq_true rfl) (zim_8 X hml hr hlocks hinit hK hbn ls H locs hl (hz2.trans hz) hat (hA.kept (fun q hq => ho q (by omega))) hS)
set_option maxRecDepth 100000 in
set_option maxHeartbeats 4000000 in
theorem zim_6 (X : zX p m c s ([.ref b] : List Value).toArray RX10 cX10_init) (hml : c.maxLocals = 1) (hr : meth.sig.returnType = none) (hlocks : meth.locks = false) (hinit : meth.name = "<init>") (hK : zK D cy s) (hbn : b < n) (ls : Array Slot) (H : Heap) (locs : List Loc) (hl : lv_has ls 1 [(0, .ref b)]) (hsz : H.size = n + 6) (hat : va_at D zcl (b, .inr (8, fsM n 6)) H) (hA : zMA D cy n 6 H) (hS : va_S (zcA b n) s.heap H locs) : W p l e (zrx 1 38 2092) s m ([.ref b] : List Value).toArray below meth c H locs 6 112 (MQ below (zqM none (fun H => zW D cy (adM b n) zsM (zS0 845) H ∧ H.size = n + 38) (zcA b n)) ([.ref b] : List Value).toArray s 38 2092 (zcA b n)) (F0 m 52 ls []) := by
  obtain ⟨hx, hb, -, -⟩ := id X
  refine lv_aload_n hx hb dX10_init_52 rfl (lv_at hl 0 rfl) ?_
  refine lv_bipush (v := 24) hx hb dX10_init_53 (by decide) ?_
  refine zkNI (h := n + 6) (N := 24) X hK m_72 (by decide) rfl (Nat.le_of_ble_eq_true rfl) ⟨(Nat.le_of_ble_eq_true rfl), (Nat.le_of_ble_eq_true rfl)⟩ hsz hS dX10_init_55 (fun H hn hz ho hS => ?_)
  replace hat := va_at.kept hat (ho b (by omega))
  replace hA := hA.step (k := 6) (N := 24) rfl ho hn
  refine zkPF X hinit hK hat hS (Or.inl rfl) rfl zin8 tyX10 tyX10_ok nmX10 6 (by decide) rfl rfl rfl m_1112 rfl (ty := .array .int) (by decide +kernel) rfl rfl (by rw [fsM_len]; decide) dX10_init_57 (fun H locs hat hz2 ho hS => ?_)
  rw [fsM_set (by decide)] at hat
  exact zwid (Nat.le_of_ble_eq_true rfl) (Nat.le_of_ble_eq_true rfl) (zim_7 X hml hr hlocks hinit hK hbn ls H locs hl (hz2.trans hz) hat (hA.kept (fun q hq => ho q (by omega))) hS)
set_option maxRecDepth 100000 in
set_option maxHeartbeats 4000000 in
theorem zim_5 (X : zX p m c s ([.ref b] : List Value).toArray RX10 cX10_init) (hml : c.maxLocals = 1) (hr : meth.sig.returnType = none) (hlocks : meth.locks = false) (hinit : meth.name = "<init>") (hK : zK D cy s) (hbn : b < n) (ls : Array Slot) (H : Heap) (locs : List Loc) (hl : lv_has ls 1 [(0, .ref b)]) (hsz : H.size = n + 5) (hat : va_at D zcl (b, .inr (8, fsM n 5)) H) (hA : zMA D cy n 5 H) (hS : va_S (zcA b n) s.heap H locs) : W p l e (zrx 1 38 2092) s m ([.ref b] : List Value).toArray below meth c H locs 5 88 (MQ below (zqM none (fun H => zW D cy (adM b n) zsM (zS0 845) H ∧ H.size = n + 38) (zcA b n)) ([.ref b] : List Value).toArray s 38 2092 (zcA b n)) (F0 m 44 ls []) := by
  obtain ⟨hx, hb, -, -⟩ := id X
  refine lv_aload_n hx hb dX10_init_44 rfl (lv_at hl 0 rfl) ?_
  refine lv_bipush (v := 24) hx hb dX10_init_45 (by decide) ?_
  refine zkNI (h := n + 5) (N := 24) X hK m_72 (by decide) rfl (Nat.le_of_ble_eq_true rfl) ⟨(Nat.le_of_ble_eq_true rfl), (Nat.le_of_ble_eq_true rfl)⟩ hsz hS dX10_init_47 (fun H hn hz ho hS => ?_)
  replace hat := va_at.kept hat (ho b (by omega))
  replace hA := hA.step (k := 5) (N := 24) rfl ho hn
  refine zkPF X hinit hK hat hS (Or.inl rfl) rfl zin8 tyX10 tyX10_ok nmX10 5 (by decide) rfl rfl rfl m_1111 rfl (ty := .array .int) (by decide +kernel) rfl rfl (by rw [fsM_len]; decide) dX10_init_49 (fun H locs hat hz2 ho hS => ?_)
  rw [fsM_set (by decide)] at hat
  exact zwid (Nat.le_of_ble_eq_true rfl) (Nat.le_of_ble_eq_true rfl) (zim_6 X hml hr hlocks hinit hK hbn ls H locs hl (hz2.trans hz) hat (hA.kept (fun q hq => ho q (by omega))) hS)
set_option maxRecDepth 100000 in
set_option maxHeartbeats 4000000 in
theorem zim_4 (X : zX p m c s ([.ref b] : List Value).toArray RX10 cX10_init) (hml : c.maxLocals = 1) (hr : meth.sig.returnType = none) (hlocks : meth.locks = false) (hinit : meth.name = "<init>") (hK : zK D cy s) (hbn : b < n) (ls : Array Slot) (H : Heap) (locs : List Loc) (hl : lv_has ls 1 [(0, .ref b)]) (hsz : H.size = n + 4) (hat : va_at D zcl (b, .inr (8, fsM n 4)) H) (hA : zMA D cy n 4 H) (hS : va_S (zcA b n) s.heap H locs) : W p l e (zrx 1 38 2092) s m ([.ref b] : List Value).toArray below meth c H locs 4 64 (MQ below (zqM none (fun H => zW D cy (adM b n) zsM (zS0 845) H ∧ H.size = n + 38) (zcA b n)) ([.ref b] : List Value).toArray s 38 2092 (zcA b n)) (F0 m 36 ls []) := by
  obtain ⟨hx, hb, -, -⟩ := id X
  refine lv_aload_n hx hb dX10_init_36 rfl (lv_at hl 0 rfl) ?_
  refine lv_bipush (v := 24) hx hb dX10_init_37 (by decide) ?_
  refine zkNI (h := n + 4) (N := 24) X hK m_72 (by decide) rfl (Nat.le_of_ble_eq_true rfl) ⟨(Nat.le_of_ble_eq_true rfl), (Nat.le_of_ble_eq_true rfl)⟩ hsz hS dX10_init_39 (fun H hn hz ho hS => ?_)
  replace hat := va_at.kept hat (ho b (by omega))
  replace hA := hA.step (k := 4) (N := 24) rfl ho hn
  refine zkPF X hinit hK hat hS (Or.inl rfl) rfl zin8 tyX10 tyX10_ok nmX10 4 (by decide) rfl rfl rfl m_1110 rfl (ty := .array .int) (by decide +kernel) rfl rfl (by rw [fsM_len]; decide) dX10_init_41 (fun H locs hat hz2 ho hS => ?_)
  rw [fsM_set (by decide)] at hat
  exact zwid (Nat.le_of_ble_eq_true rfl) (Nat.le_of_ble_eq_true rfl) (zim_5 X hml hr hlocks hinit hK hbn ls H locs hl (hz2.trans hz) hat (hA.kept (fun q hq => ho q (by omega))) hS)
set_option maxRecDepth 100000 in
set_option maxHeartbeats 4000000 in
theorem zim_3 (X : zX p m c s ([.ref b] : List Value).toArray RX10 cX10_init) (hml : c.maxLocals = 1) (hr : meth.sig.returnType = none) (hlocks : meth.locks = false) (hinit : meth.name = "<init>") (hK : zK D cy s) (hbn : b < n) (ls : Array Slot) (H : Heap) (locs : List Loc) (hl : lv_has ls 1 [(0, .ref b)]) (hsz : H.size = n + 3) (hat : va_at D zcl (b, .inr (8, fsM n 3)) H) (hA : zMA D cy n 3 H) (hS : va_S (zcA b n) s.heap H locs) : W p l e (zrx 1 38 2092) s m ([.ref b] : List Value).toArray below meth c H locs 3 40 (MQ below (zqM none (fun H => zW D cy (adM b n) zsM (zS0 845) H ∧ H.size = n + 38) (zcA b n)) ([.ref b] : List Value).toArray s 38 2092 (zcA b n)) (F0 m 28 ls []) := by
  obtain ⟨hx, hb, -, -⟩ := id X
  refine lv_aload_n hx hb dX10_init_28 rfl (lv_at hl 0 rfl) ?_
  refine lv_bipush (v := 24) hx hb dX10_init_29 (by decide) ?_
  refine zkNI (h := n + 3) (N := 24) X hK m_72 (by decide) rfl (Nat.le_of_ble_eq_true rfl) ⟨(Nat.le_of_ble_eq_true rfl), (Nat.le_of_ble_eq_true rfl)⟩ hsz hS dX10_init_31 (fun H hn hz ho hS => ?_)
  replace hat := va_at.kept hat (ho b (by omega))
  replace hA := hA.step (k := 3) (N := 24) rfl ho hn
  refine zkPF X hinit hK hat hS (Or.inl rfl) rfl zin8 tyX10 tyX10_ok nmX10 3 (by decide) rfl rfl rfl m_1109 rfl (ty := .array .int) (by decide +kernel) rfl rfl (by rw [fsM_len]; decide) dX10_init_33 (fun H locs hat hz2 ho hS => ?_)
  rw [fsM_set (by decide)] at hat
  exact zwid (Nat.le_of_ble_eq_true rfl) (Nat.le_of_ble_eq_true rfl) (zim_4 X hml hr hlocks hinit hK hbn ls H locs hl (hz2.trans hz) hat (hA.kept (fun q hq => ho q (by omega))) hS)
set_option maxRecDepth 100000 in
set_option maxHeartbeats 4000000 in
theorem zim_2 (X : zX p m c s ([.ref b] : List Value).toArray RX10 cX10_init) (hml : c.maxLocals = 1) (hr : meth.sig.returnType = none) (hlocks : meth.locks = false) (hinit : meth.name = "<init>") (hK : zK D cy s) (hbn : b < n) (ls : Array Slot) (H : Heap) (locs : List Loc) (hl : lv_has ls 1 [(0, .ref b)]) (hsz : H.size = n + 2) (hat : va_at D zcl (b, .inr (8, fsM n 2)) H) (hA : zMA D cy n 2 H) (hS : va_S (zcA b n) s.heap H locs) : W p l e (zrx 1 38 2092) s m ([.ref b] : List Value).toArray below meth c H locs 2 16 (MQ below (zqM none (fun H => zW D cy (adM b n) zsM (zS0 845) H ∧ H.size = n + 38) (zcA b n)) ([.ref b] : List Value).toArray s 38 2092 (zcA b n)) (F0 m 20 ls []) := by
  obtain ⟨hx, hb, -, -⟩ := id X
  refine lv_aload_n hx hb dX10_init_20 rfl (lv_at hl 0 rfl) ?_
  refine lv_bipush (v := 24) hx hb dX10_init_21 (by decide) ?_
  refine zkNI (h := n + 2) (N := 24) X hK m_72 (by decide) rfl (Nat.le_of_ble_eq_true rfl) ⟨(Nat.le_of_ble_eq_true rfl), (Nat.le_of_ble_eq_true rfl)⟩ hsz hS dX10_init_23 (fun H hn hz ho hS => ?_)
  replace hat := va_at.kept hat (ho b (by omega))
  replace hA := hA.step (k := 2) (N := 24) rfl ho hn
  refine zkPF X hinit hK hat hS (Or.inl rfl) rfl zin8 tyX10 tyX10_ok nmX10 2 (by decide) rfl rfl rfl m_1108 rfl (ty := .array .int) (by decide +kernel) rfl rfl (by rw [fsM_len]; decide) dX10_init_25 (fun H locs hat hz2 ho hS => ?_)
  rw [fsM_set (by decide)] at hat
  exact zwid (Nat.le_of_ble_eq_true rfl) (Nat.le_of_ble_eq_true rfl) (zim_3 X hml hr hlocks hinit hK hbn ls H locs hl (hz2.trans hz) hat (hA.kept (fun q hq => ho q (by omega))) hS)
set_option maxRecDepth 100000 in
set_option maxHeartbeats 4000000 in
theorem zim_1 (X : zX p m c s ([.ref b] : List Value).toArray RX10 cX10_init) (hml : c.maxLocals = 1) (hr : meth.sig.returnType = none) (hlocks : meth.locks = false) (hinit : meth.name = "<init>") (hK : zK D cy s) (hbn : b < n) (ls : Array Slot) (H : Heap) (locs : List Loc) (hl : lv_has ls 1 [(0, .ref b)]) (hsz : H.size = n + 1) (hat : va_at D zcl (b, .inr (8, fsM n 1)) H) (hA : zMA D cy n 1 H) (hS : va_S (zcA b n) s.heap H locs) : W p l e (zrx 1 38 2092) s m ([.ref b] : List Value).toArray below meth c H locs 1 8 (MQ below (zqM none (fun H => zW D cy (adM b n) zsM (zS0 845) H ∧ H.size = n + 38) (zcA b n)) ([.ref b] : List Value).toArray s 38 2092 (zcA b n)) (F0 m 12 ls []) := by
  obtain ⟨hx, hb, -, -⟩ := id X
  refine lv_aload_n hx hb dX10_init_12 rfl (lv_at hl 0 rfl) ?_
  refine lv_bipush (v := 8) hx hb dX10_init_13 (by decide) ?_
  refine zkNI (h := n + 1) (N := 8) X hK m_72 (by decide) rfl (Nat.le_of_ble_eq_true rfl) ⟨(Nat.le_of_ble_eq_true rfl), (Nat.le_of_ble_eq_true rfl)⟩ hsz hS dX10_init_15 (fun H hn hz ho hS => ?_)
  replace hat := va_at.kept hat (ho b (by omega))
  replace hA := hA.step (k := 1) (N := 8) rfl ho hn
  refine zkPF X hinit hK hat hS (Or.inl rfl) rfl zin8 tyX10 tyX10_ok nmX10 1 (by decide) rfl rfl rfl m_1107 rfl (ty := .array .int) (by decide +kernel) rfl rfl (by rw [fsM_len]; decide) dX10_init_17 (fun H locs hat hz2 ho hS => ?_)
  rw [fsM_set (by decide)] at hat
  exact zwid (Nat.le_of_ble_eq_true rfl) (Nat.le_of_ble_eq_true rfl) (zim_2 X hml hr hlocks hinit hK hbn ls H locs hl (hz2.trans hz) hat (hA.kept (fun q hq => ho q (by omega))) hS)
set_option maxRecDepth 100000 in
set_option maxHeartbeats 4000000 in
theorem zim_0 (X : zX p m c s ([.ref b] : List Value).toArray RX10 cX10_init) (hml : c.maxLocals = 1) (hr : meth.sig.returnType = none) (hlocks : meth.locks = false) (hinit : meth.name = "<init>") (hK : zK D cy s) (hbn : b < n) (ls : Array Slot) (H : Heap) (locs : List Loc) (hl : lv_has ls 1 [(0, .ref b)]) (hsz : H.size = n + 0) (hat : va_at D zcl (b, .inr (8, fsM n 0)) H) (hA : zMA D cy n 0 H) (hS : va_S (zcA b n) s.heap H locs) : W p l e (zrx 1 38 2092) s m ([.ref b] : List Value).toArray below meth c H locs 0 0 (MQ below (zqM none (fun H => zW D cy (adM b n) zsM (zS0 845) H ∧ H.size = n + 38) (zcA b n)) ([.ref b] : List Value).toArray s 38 2092 (zcA b n)) (F0 m 4 ls []) := by
  obtain ⟨hx, hb, -, -⟩ := id X
  refine lv_aload_n hx hb dX10_init_4 rfl (lv_at hl 0 rfl) ?_
  refine lv_bipush (v := 8) hx hb dX10_init_5 (by decide) ?_
  refine zkNI (h := n + 0) (N := 8) X hK m_72 (by decide) rfl (Nat.le_of_ble_eq_true rfl) ⟨(Nat.le_of_ble_eq_true rfl), (Nat.le_of_ble_eq_true rfl)⟩ hsz hS dX10_init_7 (fun H hn hz ho hS => ?_)
  replace hat := va_at.kept hat (ho b (by omega))
  replace hA := hA.step (k := 0) (N := 8) rfl ho hn
  refine zkPF X hinit hK hat hS (Or.inl rfl) rfl zin8 tyX10 tyX10_ok nmX10 0 (by decide) rfl rfl rfl m_1106 rfl (ty := .array .int) (by decide +kernel) rfl rfl (by rw [fsM_len]; decide) dX10_init_9 (fun H locs hat hz2 ho hS => ?_)
  rw [fsM_set (by decide)] at hat
  exact zwid (Nat.le_of_ble_eq_true rfl) (Nat.le_of_ble_eq_true rfl) (zim_1 X hml hr hlocks hinit hK hbn ls H locs hl (hz2.trans hz) hat (hA.kept (fun q hq => ho q (by omega))) hS)
end ZIM
set_option maxRecDepth 100000 in
set_option maxHeartbeats 4000000 in
theorem ctX10_init (l : Launch) (D : va_G) (cy : Nat → ClassId) (b n : Nat) (hbn : b < n) : Met l yX10_init (zw yX10_init cX10_init 1 none) (zrx 1 38 2092) (va_Pc [.ref b] (zBC D cy (fun H => va_at D zcl (b, .inr (8, fsM0)) H ∧ H.size = n))) (zqM none (fun H => zW D cy (adM b n) zsM (zS0 845) H ∧ H.size = n + 38) (zcA b n)) 38 2092 (zcA b n) := by
  refine zmetC (by decide) rfl (Nat.le_of_ble_eq_true rfl) rfl (fun p e s m below meth c ls X hml hr hlocks hinit hv hl => ?_)
  obtain ⟨hK, hP, hat, hsz⟩ := hv
  obtain ⟨hx, hb, -, -⟩ := id X
  have hS : va_S (zcA b n) s.heap s.heap [] := va_S.rf
  rw [fsM_0 n] at hat
  refine lv_aload_n hx hb dX10_init_0 rfl (lv_at hl 0 rfl) ?_
  refine zkObj X hml hl.1 m_1105 m_31 m_32 dX10_init_1 ⟨(Nat.le_of_ble_eq_true rfl), (Nat.le_of_ble_eq_true rfl)⟩ (Nat.le_of_ble_eq_true rfl) ?_
  exact zim_0 X hml hr hlocks hinit hK hbn ls s.heap [] hl hsz hat (fun j hj => absurd hj (Nat.not_lt_zero _)) hS
