section ZCN
variable {p : Program} {l : Launch} {e : Env} {s : State} {m : MethodId} {args : Array Value} {below : List Frame} {meth : Method} {c : Code} {H : Heap} {locs : List Loc} {cells slots : Nat} {ls : Array Slot} {D : va_G} {cy : Nat → ClassId} {rf : Nat → Nat} {N b L dp pq : Nat} {xs : Nat → Int32} {ak av : Nat → Nat} {σ δ μ τ μ0 : zS} {K bb c1 : Nat} {V : Nat → Int64}
/-! ARECANOPIES -/
def zPk (D : va_G) (cy : Nat → ClassId) (pq : Nat) (w : Nat → Int32) (H : Heap) : Prop := va_at D zcl (pq, .inl (cy 0, 8, .inl w)) H
theorem zpl {R : Room} {Q : State → Prop} {cc : ByteArray} {pc : Nat} {own : String} {i : Nat} (hi8 : i < 8) {rest : List Value} {w : Nat → Int32} (X : zX p m c s args own cc) (hK : zK D cy s) (hD : zPk D cy pq w H) (hd : decode cc pc = .ok (.iaload, 1))
    (kk : W p l e R s m args below meth c H locs cells slots Q (F0 m (pc + 1) ls (.int (w i) :: rest))) : W p l e R s m args below meth c H locs cells slots Q (F0 m pc ls (.int (nI i) :: .ref pq :: rest)) := by
  have h : va_at D zcl (pq, .inl (cy 0, 8, .inl w)) H := hD
  have e : (nI i).toNatClampNeg = i := nI_clamp (by omega)
  refine va_iald (D := D) (ws := [(pq, .inl (cy 0, 8, .inl w))]) X.1 X.2.1 hK (fun j q hj => by
    rcases j with _ | j
    · cases hj; exact h
    · simp at hj) 0 0 rfl rfl (vp_in_nI hi8 (show 8 < 2 ^ 31 by decide)) hd ?_
  rw [e]
  exact kk
theorem nI_one {j : Nat} (h : ¬ nI j = 0) : 1 ≤ j := Nat.one_le_iff_ne_zero.mpr (fun z => h (by rw [z]; rfl))
/-- the array of the packings, once j of its cells are written -/
def lpq (μ : zS) (j q : Nat) : Int32 := if q < j then nI (pkm μ q) else 0
def lpk (μ : zS) (n : Nat) : Nat := zct (fun c => decide (zA μ 38 0 c = 112)) n
theorem lpk_1 (h : zA μ 38 0 c1 = 112) : nI (lpk μ c1) + 1 = nI (lpk μ (c1 + 1)) := by
  have e : lpk μ (c1 + 1) = lpk μ c1 + 1 := by
    show zct _ (c1 + 1) = _
    rw [zct, if_pos (decide_eq_true h)]; rfl
  rw [e]; exact nI_1 _
theorem lpk_0 (h : ¬ zA μ 38 0 c1 = 112) : nI (lpk μ c1) + 0 = nI (lpk μ (c1 + 1)) := by
  have e : lpk μ (c1 + 1) = lpk μ c1 := by
    show zct _ (c1 + 1) = _
    rw [zct, if_neg (fun z => h (of_decide_eq_true z))]; rfl
  rw [e]; exact Int32.add_zero _
theorem lhd_1 (h : zA μ 38 0 c1 = 104) : lheld V μ c1 + V c1 = lheld V μ (c1 + 1) := by
  show _ = lheld V μ c1 + (if zA μ 38 0 c1 = 104 then V c1 else 0)
  rw [if_pos h]
theorem lhd_0 (h : ¬ zA μ 38 0 c1 = 104) : lheld V μ c1 + 0 = lheld V μ (c1 + 1) := by
  show _ = lheld V μ c1 + (if zA μ 38 0 c1 = 104 then V c1 else 0)
  rw [if_neg h]
theorem lg_self (x : Int64) : lg_cmp x x = 0 := by
  unfold lg_cmp
  rw [if_neg Int64.lt_irrefl, if_pos rfl]
theorem lpk_le (hP : zP 4 8 3 K bb V σ δ μ τ) : ¬ 6 < nI (lpk μ 8) := by
  have := pack_6 hP
  unfold lpk
  exact Int32.not_lt.mpr ((nI_leI (a := zct (fun c => decide (zA μ 38 0 c = 112)) 8) (b := 6) (by omega) (by decide)).mpr this)
set_option maxRecDepth 100000 in
set_option maxHeartbeats 4000000 in
theorem zcn_in (X : zX p m c s args RL cL_areCanopies) (hml : c.maxLocals = 11) (hr : meth.sig.returnType = some .boolean) (hlocks : meth.locks = false) (hl0 : l.stackTraces = false) (C0 : zCx s D cy rf N b L xs ak av) (hP : zP 4 8 3 K bb V σ δ μ τ) (hK : K ≤ 504) (hc : c1 < 8) {Q : State → Prop} (kk : ∀ (H : Heap) (locs : List Loc) (cells slots : Nat) (ls : Array Slot), zSA D cy N (zxb N 0 0) (zxa N) σ (zxd N) δ H → zDp D cy dp V H → zPk D cy pq (lpq μ0 8) H → va_S (fun _ => False) s.heap H locs → lv_has ls 11 [(9, .int (nI (pkm μ c1))), (8, .int (zA μ 38 0 c1)), (7, .int (nI c1)), (6, .int (nI (lpk μ c1))), (4, .long (lheld V μ c1)), (3, .int 1), (0, .ref N), (1, .ref pq), (2, .ref dp)] → cells ≤ 1050 * c1 + 10 + 12 * pkm μ c1 → slots ≤ 6 * (1050 * c1 + 10 + 12 * pkm μ c1) → W p l e (zrx 10 8450 50700) s m args below meth c H locs cells slots Q (F0 m 239 ls [])) : ∀ (k j : Nat), j + k = pkm μ c1 → ∀ (H : Heap) (locs : List Loc) (cells slots : Nat) (ls : Array Slot), zSA D cy N (zxb N 0 0) (zxa N) σ (zxd N) δ H → zDp D cy dp V H → zPk D cy pq (lpq μ0 8) H → va_S (fun _ => False) s.heap H locs → lv_has ls 11 [(10, .int (nI j)), (9, .int (nI (pkm μ c1))), (8, .int (zA μ 38 0 c1)), (7, .int (nI c1)), (6, .int (nI (lpk μ c1))), (4, .long (lheld V μ c1)), (3, .int 1), (0, .ref N), (1, .ref pq), (2, .ref dp)] → cells ≤ 1050 * c1 + 10 + 12 * j → slots ≤ 6 * (1050 * c1 + 10 + 12 * j) → W p l e (zrx 10 8450 50700) s m args below meth c H locs cells slots Q (F0 m 137 ls []) := by
  obtain ⟨hx, hb, -, -⟩ := id X
  have hA0 : ∀ q : Nat, (fun _ => False) q → zLA N q := fun q h => h.elim
  have hp86 := pkm_le hP c1
  intro k
  induction k with
  | zero =>
    intro j hj H locs cells slots ls hG hDp hPk hS hl hcl hsl
    have hj : j = pkm μ c1 := hj
    subst hj
    refine lv_iload hx hb dL_areCanopies_137 (lv_at hl 0 rfl) ?_
    refine lv_iload hx hb dL_areCanopies_139 (lv_at hl 1 rfl) ?_
    refine lv_icmp_ge (tgt := 239) hx hb dL_areCanopies_141 (by decide) (fun b1 => ?_) (fun h => absurd (Int32.le_refl _) h)
    exact kk H locs cells slots ls hG hDp hPk hS (lv_sub hl [1, 2, 3, 4, 5, 6, 7, 8, 9] rfl) hcl hsl
  | succ k ih =>
    intro j hj H locs cells slots ls hG hDp hPk hS hl hcl hsl
    have hjm : j < pkm μ c1 := by omega
    refine lv_iload hx hb dL_areCanopies_137 (lv_at hl 0 rfl) ?_
    refine lv_iload hx hb dL_areCanopies_139 (lv_at hl 1 rfl) ?_
    refine lv_icmp_ge (tgt := 239) hx hb dL_areCanopies_141 (by decide) (fun h => absurd h (fun z => absurd ((nI_leI (by omega) (by omega)).mp z) (by omega))) (fun b1 => ?_)
    refine lv_iload_n hx hb dL_areCanopies_144 rfl (lv_at hl 6 rfl) ?_
    refine lv_aload_n hx hb dL_areCanopies_145 rfl (lv_at hl 7 rfl) ?_
    refine lv_iload hx hb dL_areCanopies_146 (lv_at hl 3 rfl) ?_
    refine lv_iload hx hb dL_areCanopies_148 (lv_at hl 0 rfl) ?_
    refine lv_bipush (v := 51) hx hb dL_areCanopies_150 (by decide) ?_
    refine zlW (As := [.ref N, .int (nI c1), .int (nI j), .int 51]) (rest := [.int 1]) X hml C0 hA0 hG (ctL_packingOf l hl0 D cy rf N (zxb N 0 0) (zxa N) σ (zxd N) δ (nI c1) (nI j) 51 hP.zv) zmL_packingOf (by decide) m_1116 ⟨(Nat.le_of_ble_eq_true rfl), (Nat.le_of_ble_eq_true rfl)⟩ ⟨by show cells + 2 ≤ 8450; omega, by show slots + 12 ≤ 50700; omega⟩ rfl hl.1 rfl (Nat.le_of_ble_eq_true rfl) dL_areCanopies_152 hS (fun q h => h.elim) (fun H locs hG hsz hfr hS => ?_)
    replace hDp := va_at.kept hDp (hfr dp (va_at.lt hDp) (fun z => z))
    replace hPk := va_at.kept hPk (hfr pq (va_at.lt hPk) (fun z => z))
    refine lv_aload_n hx hb dL_areCanopies_155 rfl (lv_at hl 7 rfl) ?_
    refine lv_iload hx hb dL_areCanopies_156 (lv_at hl 3 rfl) ?_
    refine lv_iload hx hb dL_areCanopies_158 (lv_at hl 0 rfl) ?_
    refine lv_bipush (v := 52) hx hb dL_areCanopies_160 (by decide) ?_
    refine zlW (As := [.ref N, .int (nI c1), .int (nI j), .int 52]) (rest := [.int (zans (k_pkr σ (nI c1) (nI j) 51) (k_look σ (nI c1) (nI j) 51)), .int 1]) X hml C0 hA0 hG (ctL_packingOf l hl0 D cy rf N (zxb N 0 0) (zxa N) σ (zxd N) δ (nI c1) (nI j) 52 hP.zv) zmL_packingOf (by decide) m_1116 ⟨(Nat.le_of_ble_eq_true rfl), (Nat.le_of_ble_eq_true rfl)⟩ ⟨by show cells + 2 + 2 ≤ 8450; omega, by show slots + 12 + 12 ≤ 50700; omega⟩ rfl hl.1 rfl (Nat.le_of_ble_eq_true rfl) dL_areCanopies_162 hS (fun q h => h.elim) (fun H locs hG hsz hfr hS => ?_)
    replace hDp := va_at.kept hDp (hfr dp (va_at.lt hDp) (fun z => z))
    replace hPk := va_at.kept hPk (hfr pq (va_at.lt hPk) (fun z => z))
    refine lv_icmp_eq (tgt := 230) hx hb dL_areCanopies_165 (by decide) (fun h => absurd h (pk_34 hP hc hjm)) (fun b2 => ?_)
    refine lv_aload_n hx hb dL_areCanopies_168 rfl (lv_at hl 7 rfl) ?_
    refine lv_iload hx hb dL_areCanopies_169 (lv_at hl 3 rfl) ?_
    refine lv_iload hx hb dL_areCanopies_171 (lv_at hl 0 rfl) ?_
    refine lv_bipush (v := 104) hx hb dL_areCanopies_173 (by decide) ?_
    refine zlW (As := [.ref N, .int (nI c1), .int (nI j), .int 104]) (rest := [.int 1]) X hml C0 hA0 hG (ctL_packingOf l hl0 D cy rf N (zxb N 0 0) (zxa N) σ (zxd N) δ (nI c1) (nI j) 104 hP.zv) zmL_packingOf (by decide) m_1116 ⟨(Nat.le_of_ble_eq_true rfl), (Nat.le_of_ble_eq_true rfl)⟩ ⟨by show cells + 2 + 2 + 2 ≤ 8450; omega, by show slots + 12 + 12 + 12 ≤ 50700; omega⟩ rfl hl.1 rfl (Nat.le_of_ble_eq_true rfl) dL_areCanopies_175 hS (fun q h => h.elim) (fun H locs hG hsz hfr hS => ?_)
    replace hDp := va_at.kept hDp (hfr dp (va_at.lt hDp) (fun z => z))
    replace hPk := va_at.kept hPk (hfr pq (va_at.lt hPk) (fun z => z))
    refine lv_if_lt (tgt := 230) hx hb dL_areCanopies_178 (by decide) (fun h => absurd h (pk_h hP hc hjm).1) (fun b3 => ?_)
    refine lv_aload_n hx hb dL_areCanopies_181 rfl (lv_at hl 7 rfl) ?_
    refine lv_iload hx hb dL_areCanopies_182 (lv_at hl 3 rfl) ?_
    refine lv_iload hx hb dL_areCanopies_184 (lv_at hl 0 rfl) ?_
    refine lv_bipush (v := 104) hx hb dL_areCanopies_186 (by decide) ?_
    refine zlW (As := [.ref N, .int (nI c1), .int (nI j), .int 104]) (rest := [.int 1]) X hml C0 hA0 hG (ctL_packingOf l hl0 D cy rf N (zxb N 0 0) (zxa N) σ (zxd N) δ (nI c1) (nI j) 104 hP.zv) zmL_packingOf (by decide) m_1116 ⟨(Nat.le_of_ble_eq_true rfl), (Nat.le_of_ble_eq_true rfl)⟩ ⟨by show cells + 2 + 2 + 2 + 2 ≤ 8450; omega, by show slots + 12 + 12 + 12 + 12 ≤ 50700; omega⟩ rfl hl.1 rfl (Nat.le_of_ble_eq_true rfl) dL_areCanopies_188 hS (fun q h => h.elim) (fun H locs hG hsz hfr hS => ?_)
    replace hDp := va_at.kept hDp (hfr dp (va_at.lt hDp) (fun z => z))
    replace hPk := va_at.kept hPk (hfr pq (va_at.lt hPk) (fun z => z))
    refine lv_bipush (v := 6) hx hb dL_areCanopies_191 (by decide) ?_
    refine lv_icmp_ge (tgt := 230) hx hb dL_areCanopies_193 (by decide) (fun h => absurd h (pk_h hP hc hjm).2) (fun b4 => ?_)
    refine lv_iload hx hb dL_areCanopies_196 (lv_at hl 0 rfl) ?_
    refine lv_if_eq (tgt := 226) hx hb dL_areCanopies_198 (by decide) (fun b5 => ?_) (fun b5 => ?_)
    · refine lv_iconst (v := 1) hx hb dL_areCanopies_226 (by decide) ?_
      refine lv_goto (tgt := 231) hx hb dL_areCanopies_227 (by decide) ?_
      refine lv_iand hx hb dL_areCanopies_231 ?_
      rw [show (1 &&& 1 : Int32) = 1 from (by decide)]
      refine lv_istore_n (lv' := [(3, .int 1), (10, .int (nI j)), (9, .int (nI (pkm μ c1))), (8, .int (zA μ 38 0 c1)), (7, .int (nI c1)), (6, .int (nI (lpk μ c1))), (4, .long (lheld V μ c1)), (0, .ref N), (1, .ref pq), (2, .ref dp)]) hx hb dL_areCanopies_232 rfl hl (by decide) rfl (fun ls hl => ?_)
      refine lv_iinc (v := nI (j + 1)) (lv' := [(10, .int (nI (j + 1))), (3, .int 1), (9, .int (nI (pkm μ c1))), (8, .int (zA μ 38 0 c1)), (7, .int (nI c1)), (6, .int (nI (lpk μ c1))), (4, .long (lheld V μ c1)), (0, .ref N), (1, .ref pq), (2, .ref dp)]) hx hb dL_areCanopies_233 hl (k := 1) rfl (nI_1 j) (by decide) rfl (fun ls hl => ?_)
      refine lv_goto (tgt := 137) hx hb dL_areCanopies_236 (by decide) ?_
      exact ih (j + 1) (by omega) H locs _ _ ls hG hDp hPk hS (lv_sub hl [0, 2, 3, 4, 5, 6, 1, 7, 8, 9] rfl) (by omega) (by omega)
    · refine lv_aload_n hx hb dL_areCanopies_201 rfl (lv_at hl 7 rfl) ?_
      refine lv_iload hx hb dL_areCanopies_202 (lv_at hl 3 rfl) ?_
      refine lv_iload hx hb dL_areCanopies_204 (lv_at hl 0 rfl) ?_
      refine lv_bipush (v := 100) hx hb dL_areCanopies_206 (by decide) ?_
      refine zlW (As := [.ref N, .int (nI c1), .int (nI j), .int 100]) (rest := [.int 1]) X hml C0 hA0 hG (ctL_packingOf l hl0 D cy rf N (zxb N 0 0) (zxa N) σ (zxd N) δ (nI c1) (nI j) 100 hP.zv) zmL_packingOf (by decide) m_1116 ⟨(Nat.le_of_ble_eq_true rfl), (Nat.le_of_ble_eq_true rfl)⟩ ⟨by show cells + 2 + 2 + 2 + 2 + 2 ≤ 8450; omega, by show slots + 12 + 12 + 12 + 12 + 12 ≤ 50700; omega⟩ rfl hl.1 rfl (Nat.le_of_ble_eq_true rfl) dL_areCanopies_208 hS (fun q h => h.elim) (fun H locs hG hsz hfr hS => ?_)
      replace hDp := va_at.kept hDp (hfr dp (va_at.lt hDp) (fun z => z))
      replace hPk := va_at.kept hPk (hfr pq (va_at.lt hPk) (fun z => z))
      refine lv_aload_n hx hb dL_areCanopies_211 rfl (lv_at hl 7 rfl) ?_
      refine lv_iload hx hb dL_areCanopies_212 (lv_at hl 3 rfl) ?_
      refine lv_iload hx hb dL_areCanopies_214 (lv_at hl 0 rfl) ?_
      refine lv_iconst (v := 1) hx hb dL_areCanopies_216 (by decide) ?_
      refine lv_isub hx hb dL_areCanopies_217 ?_
      rw [show ((nI j) - 1 : Int32) = nI (j - 1) from (pk_lf (nI_one b5))]
      refine lv_bipush (v := 100) hx hb dL_areCanopies_218 (by decide) ?_
      refine zlW (As := [.ref N, .int (nI c1), .int (nI (j - 1)), .int 100]) (rest := [.int (zans (k_pkr σ (nI c1) (nI j) 100) (k_look σ (nI c1) (nI j) 100)), .int 1]) X hml C0 hA0 hG (ctL_packingOf l hl0 D cy rf N (zxb N 0 0) (zxa N) σ (zxd N) δ (nI c1) (nI (j - 1)) 100 hP.zv) zmL_packingOf (by decide) m_1116 ⟨(Nat.le_of_ble_eq_true rfl), (Nat.le_of_ble_eq_true rfl)⟩ ⟨by show cells + 2 + 2 + 2 + 2 + 2 + 2 ≤ 8450; omega, by show slots + 12 + 12 + 12 + 12 + 12 + 12 ≤ 50700; omega⟩ rfl hl.1 rfl (Nat.le_of_ble_eq_true rfl) dL_areCanopies_220 hS (fun q h => h.elim) (fun H locs hG hsz hfr hS => ?_)
      replace hDp := va_at.kept hDp (hfr dp (va_at.lt hDp) (fun z => z))
      replace hPk := va_at.kept hPk (hfr pq (va_at.lt hPk) (fun z => z))
      refine lv_icmp_lt (tgt := 230) hx hb dL_areCanopies_223 (by decide) (fun h => absurd h (have hz := nI_one b5; show ¬ zans (k_pkr σ (nI c1) (nI j) 100) (k_look σ (nI c1) (nI j) 100) < zans (k_pkr σ (nI c1) (nI (j - 1)) 100) (k_look σ (nI c1) (nI (j - 1)) 100) from by have z := pk_d hP hc (n := j - 1) (by omega); rwa [show j - 1 + 1 = j by omega] at z)) (fun b6 => ?_)
      refine lv_iconst (v := 1) hx hb dL_areCanopies_226 (by decide) ?_
      refine lv_goto (tgt := 231) hx hb dL_areCanopies_227 (by decide) ?_
      refine lv_iand hx hb dL_areCanopies_231 ?_
      rw [show (1 &&& 1 : Int32) = 1 from (by decide)]
      refine lv_istore_n (lv' := [(3, .int 1), (10, .int (nI j)), (9, .int (nI (pkm μ c1))), (8, .int (zA μ 38 0 c1)), (7, .int (nI c1)), (6, .int (nI (lpk μ c1))), (4, .long (lheld V μ c1)), (0, .ref N), (1, .ref pq), (2, .ref dp)]) hx hb dL_areCanopies_232 rfl hl (by decide) rfl (fun ls hl => ?_)
      refine lv_iinc (v := nI (j + 1)) (lv' := [(10, .int (nI (j + 1))), (3, .int 1), (9, .int (nI (pkm μ c1))), (8, .int (zA μ 38 0 c1)), (7, .int (nI c1)), (6, .int (nI (lpk μ c1))), (4, .long (lheld V μ c1)), (0, .ref N), (1, .ref pq), (2, .ref dp)]) hx hb dL_areCanopies_233 hl (k := 1) rfl (nI_1 j) (by decide) rfl (fun ls hl => ?_)
      refine lv_goto (tgt := 137) hx hb dL_areCanopies_236 (by decide) ?_
      exact ih (j + 1) (by omega) H locs _ _ ls hG hDp hPk hS (lv_sub hl [0, 2, 3, 4, 5, 6, 1, 7, 8, 9] rfl) (by omega) (by omega)
set_option maxRecDepth 100000 in
set_option maxHeartbeats 4000000 in
theorem zcn_239 (X : zX p m c s args RL cL_areCanopies) (hml : c.maxLocals = 11) (hr : meth.sig.returnType = some .boolean) (hlocks : meth.locks = false) (hl0 : l.stackTraces = false) (C0 : zCx s D cy rf N b L xs ak av) (hP : zP 4 8 3 K bb V σ δ μ τ) (hK : K ≤ 504) (hc : c1 < 8) {Q : State → Prop} (kk : ∀ (H : Heap) (locs : List Loc) (cells slots : Nat) (ls : Array Slot), zSA D cy N (zxb N 0 0) (zxa N) σ (zxd N) δ H → zDp D cy dp V H → zPk D cy pq (lpq μ0 8) H → va_S (fun _ => False) s.heap H locs → lv_has ls 11 [(7, .int (nI (c1 + 1))), (6, .int (nI (lpk μ (c1 + 1)))), (4, .long (lheld V μ (c1 + 1))), (3, .int 1), (0, .ref N), (1, .ref pq), (2, .ref dp)] → cells ≤ 1050 * (c1 + 1) → slots ≤ 6 * (1050 * (c1 + 1)) → W p l e (zrx 10 8450 50700) s m args below meth c H locs cells slots Q (F0 m 11 ls [])) (hG : zSA D cy N (zxb N 0 0) (zxa N) σ (zxd N) δ H) (hDp : zDp D cy dp V H) (hPk : zPk D cy pq (lpq μ0 8) H) (hS : va_S (fun _ => False) s.heap H locs) (hl : lv_has ls 11 [(9, .int (nI (pkm μ c1))), (8, .int (zA μ 38 0 c1)), (7, .int (nI c1)), (6, .int (nI (lpk μ c1))), (4, .long (lheld V μ c1)), (3, .int 1), (0, .ref N), (1, .ref pq), (2, .ref dp)]) (hcl : cells ≤ 1050 * c1 + 10 + 12 * pkm μ c1) (hsl : slots ≤ 6 * (1050 * c1 + 10 + 12 * pkm μ c1)) : W p l e (zrx 10 8450 50700) s m args below meth c H locs cells slots Q (F0 m 239 ls []) := by
  obtain ⟨hx, hb, -, -⟩ := id X
  have hA0 : ∀ q : Nat, (fun _ => False) q → zLA N q := fun q h => h.elim
  have hp86 := pkm_le hP c1
  refine lv_iload_n hx hb dL_areCanopies_239 rfl (lv_at hl 5 rfl) ?_
  refine lv_aload_n hx hb dL_areCanopies_240 rfl (lv_at hl 6 rfl) ?_
  refine lv_iload hx hb dL_areCanopies_241 (lv_at hl 2 rfl) ?_
  refine lv_iload hx hb dL_areCanopies_243 (lv_at hl 0 rfl) ?_
  refine lv_bipush (v := 104) hx hb dL_areCanopies_245 (by decide) ?_
  refine zlW (As := [.ref N, .int (nI c1), .int (nI (pkm μ c1)), .int 104]) (rest := [.int 1]) X hml C0 hA0 hG (ctL_packingOf l hl0 D cy rf N (zxb N 0 0) (zxa N) σ (zxd N) δ (nI c1) (nI (pkm μ c1)) 104 hP.zv) zmL_packingOf (by decide) m_1116 ⟨(Nat.le_of_ble_eq_true rfl), (Nat.le_of_ble_eq_true rfl)⟩ ⟨by show cells + 2 ≤ 8450; omega, by show slots + 12 ≤ 50700; omega⟩ rfl hl.1 rfl (Nat.le_of_ble_eq_true rfl) dL_areCanopies_247 hS (fun q h => h.elim) (fun H locs hG hsz hfr hS => ?_)
  replace hDp := va_at.kept hDp (hfr dp (va_at.lt hDp) (fun z => z))
  replace hPk := va_at.kept hPk (hfr pq (va_at.lt hPk) (fun z => z))
  refine lv_bipush (v := (-77)) hx hb dL_areCanopies_250 (by decide) ?_
  refine lv_icmp_ne (tgt := 259) hx hb dL_areCanopies_252 (by decide) (fun h => absurd h (not_not_intro (pk_end hP hc 104))) (fun b1 => ?_)
  refine lv_iconst (v := 1) hx hb dL_areCanopies_255 (by decide) ?_
  refine lv_goto (tgt := 260) hx hb dL_areCanopies_256 (by decide) ?_
  refine lv_iand hx hb dL_areCanopies_260 ?_
  rw [show (1 &&& 1 : Int32) = 1 from (by decide)]
  refine lv_istore_n (lv' := [(3, .int 1), (9, .int (nI (pkm μ c1))), (8, .int (zA μ 38 0 c1)), (7, .int (nI c1)), (6, .int (nI (lpk μ c1))), (4, .long (lheld V μ c1)), (0, .ref N), (1, .ref pq), (2, .ref dp)]) hx hb dL_areCanopies_261 rfl hl (by decide) rfl (fun ls hl => ?_)
  refine lv_lload hx hb dL_areCanopies_262 (lv_at hl 5 rfl) ?_
  refine lv_iload hx hb dL_areCanopies_264 (lv_at hl 2 rfl) ?_
  refine lv_bipush (v := 104) hx hb dL_areCanopies_266 (by decide) ?_
  refine lv_icmp_ne (tgt := 278) hx hb dL_areCanopies_268 (by decide) (fun b2 => ?_) (fun b2 => ?_)
  · refine lv_lconst (v := 0) hx hb dL_areCanopies_278 rfl ?_
    refine lv_ladd hx hb dL_areCanopies_279 ?_
    rw [show ((lheld V μ c1) + 0 : Int64) = lheld V μ (c1 + 1) from (lhd_0 b2)]
    refine lv_lstore (lv' := [(4, .long (lheld V μ (c1 + 1))), (3, .int 1), (9, .int (nI (pkm μ c1))), (8, .int (zA μ 38 0 c1)), (7, .int (nI c1)), (6, .int (nI (lpk μ c1))), (0, .ref N), (1, .ref pq), (2, .ref dp)]) hx hb dL_areCanopies_280 hl (by decide) rfl (fun ls hl => ?_)
    refine lv_iload hx hb dL_areCanopies_282 (lv_at hl 5 rfl) ?_
    refine lv_iload hx hb dL_areCanopies_284 (lv_at hl 3 rfl) ?_
    refine lv_bipush (v := 112) hx hb dL_areCanopies_286 (by decide) ?_
    refine lv_icmp_ne (tgt := 295) hx hb dL_areCanopies_288 (by decide) (fun b3 => ?_) (fun b3 => ?_)
    · refine lv_iconst (v := 0) hx hb dL_areCanopies_295 (by decide) ?_
      refine lv_iadd hx hb dL_areCanopies_296 ?_
      rw [show ((nI (lpk μ c1)) + 0 : Int32) = nI (lpk μ (c1 + 1)) from (lpk_0 b3)]
      refine lv_istore (lv' := [(6, .int (nI (lpk μ (c1 + 1)))), (4, .long (lheld V μ (c1 + 1))), (3, .int 1), (9, .int (nI (pkm μ c1))), (8, .int (zA μ 38 0 c1)), (7, .int (nI c1)), (0, .ref N), (1, .ref pq), (2, .ref dp)]) hx hb dL_areCanopies_297 hl (by decide) rfl (fun ls hl => ?_)
      refine lv_iinc (v := nI (c1 + 1)) (lv' := [(7, .int (nI (c1 + 1))), (6, .int (nI (lpk μ (c1 + 1)))), (4, .long (lheld V μ (c1 + 1))), (3, .int 1), (9, .int (nI (pkm μ c1))), (8, .int (zA μ 38 0 c1)), (0, .ref N), (1, .ref pq), (2, .ref dp)]) hx hb dL_areCanopies_299 hl (k := 5) rfl (nI_1 c1) (by decide) rfl (fun ls hl => ?_)
      refine lv_goto (tgt := 11) hx hb dL_areCanopies_302 (by decide) ?_
      exact kk H locs _ _ ls hG hDp hPk hS (lv_sub hl [0, 1, 2, 3, 6, 7, 8] rfl) (by omega) (by omega)
    · refine lv_iconst (v := 1) hx hb dL_areCanopies_291 (by decide) ?_
      refine lv_goto (tgt := 296) hx hb dL_areCanopies_292 (by decide) ?_
      refine lv_iadd hx hb dL_areCanopies_296 ?_
      rw [show ((nI (lpk μ c1)) + 1 : Int32) = nI (lpk μ (c1 + 1)) from (lpk_1 b3)]
      refine lv_istore (lv' := [(6, .int (nI (lpk μ (c1 + 1)))), (4, .long (lheld V μ (c1 + 1))), (3, .int 1), (9, .int (nI (pkm μ c1))), (8, .int (zA μ 38 0 c1)), (7, .int (nI c1)), (0, .ref N), (1, .ref pq), (2, .ref dp)]) hx hb dL_areCanopies_297 hl (by decide) rfl (fun ls hl => ?_)
      refine lv_iinc (v := nI (c1 + 1)) (lv' := [(7, .int (nI (c1 + 1))), (6, .int (nI (lpk μ (c1 + 1)))), (4, .long (lheld V μ (c1 + 1))), (3, .int 1), (9, .int (nI (pkm μ c1))), (8, .int (zA μ 38 0 c1)), (0, .ref N), (1, .ref pq), (2, .ref dp)]) hx hb dL_areCanopies_299 hl (k := 5) rfl (nI_1 c1) (by decide) rfl (fun ls hl => ?_)
      refine lv_goto (tgt := 11) hx hb dL_areCanopies_302 (by decide) ?_
      exact kk H locs _ _ ls hG hDp hPk hS (lv_sub hl [0, 1, 2, 3, 6, 7, 8] rfl) (by omega) (by omega)
  · refine lv_aload_n hx hb dL_areCanopies_271 rfl (lv_at hl 8 rfl) ?_
    refine lv_iload hx hb dL_areCanopies_272 (lv_at hl 3 rfl) ?_
    refine zdl hc X C0.1 hDp dL_areCanopies_274 ?_
    refine lv_goto (tgt := 279) hx hb dL_areCanopies_275 (by decide) ?_
    refine lv_ladd hx hb dL_areCanopies_279 ?_
    rw [show ((lheld V μ c1) + (V c1) : Int64) = lheld V μ (c1 + 1) from (lhd_1 b2)]
    refine lv_lstore (lv' := [(4, .long (lheld V μ (c1 + 1))), (3, .int 1), (9, .int (nI (pkm μ c1))), (8, .int (zA μ 38 0 c1)), (7, .int (nI c1)), (6, .int (nI (lpk μ c1))), (0, .ref N), (1, .ref pq), (2, .ref dp)]) hx hb dL_areCanopies_280 hl (by decide) rfl (fun ls hl => ?_)
    refine lv_iload hx hb dL_areCanopies_282 (lv_at hl 5 rfl) ?_
    refine lv_iload hx hb dL_areCanopies_284 (lv_at hl 3 rfl) ?_
    refine lv_bipush (v := 112) hx hb dL_areCanopies_286 (by decide) ?_
    refine lv_icmp_ne (tgt := 295) hx hb dL_areCanopies_288 (by decide) (fun b4 => ?_) (fun b4 => ?_)
    · refine lv_iconst (v := 0) hx hb dL_areCanopies_295 (by decide) ?_
      refine lv_iadd hx hb dL_areCanopies_296 ?_
      rw [show ((nI (lpk μ c1)) + 0 : Int32) = nI (lpk μ (c1 + 1)) from (lpk_0 b4)]
      refine lv_istore (lv' := [(6, .int (nI (lpk μ (c1 + 1)))), (4, .long (lheld V μ (c1 + 1))), (3, .int 1), (9, .int (nI (pkm μ c1))), (8, .int (zA μ 38 0 c1)), (7, .int (nI c1)), (0, .ref N), (1, .ref pq), (2, .ref dp)]) hx hb dL_areCanopies_297 hl (by decide) rfl (fun ls hl => ?_)
      refine lv_iinc (v := nI (c1 + 1)) (lv' := [(7, .int (nI (c1 + 1))), (6, .int (nI (lpk μ (c1 + 1)))), (4, .long (lheld V μ (c1 + 1))), (3, .int 1), (9, .int (nI (pkm μ c1))), (8, .int (zA μ 38 0 c1)), (0, .ref N), (1, .ref pq), (2, .ref dp)]) hx hb dL_areCanopies_299 hl (k := 5) rfl (nI_1 c1) (by decide) rfl (fun ls hl => ?_)
      refine lv_goto (tgt := 11) hx hb dL_areCanopies_302 (by decide) ?_
      exact kk H locs _ _ ls hG hDp hPk hS (lv_sub hl [0, 1, 2, 3, 6, 7, 8] rfl) (by omega) (by omega)
    · refine lv_iconst (v := 1) hx hb dL_areCanopies_291 (by decide) ?_
      refine lv_goto (tgt := 296) hx hb dL_areCanopies_292 (by decide) ?_
      refine lv_iadd hx hb dL_areCanopies_296 ?_
      rw [show ((nI (lpk μ c1)) + 1 : Int32) = nI (lpk μ (c1 + 1)) from (lpk_1 b4)]
      refine lv_istore (lv' := [(6, .int (nI (lpk μ (c1 + 1)))), (4, .long (lheld V μ (c1 + 1))), (3, .int 1), (9, .int (nI (pkm μ c1))), (8, .int (zA μ 38 0 c1)), (7, .int (nI c1)), (0, .ref N), (1, .ref pq), (2, .ref dp)]) hx hb dL_areCanopies_297 hl (by decide) rfl (fun ls hl => ?_)
      refine lv_iinc (v := nI (c1 + 1)) (lv' := [(7, .int (nI (c1 + 1))), (6, .int (nI (lpk μ (c1 + 1)))), (4, .long (lheld V μ (c1 + 1))), (3, .int 1), (9, .int (nI (pkm μ c1))), (8, .int (zA μ 38 0 c1)), (0, .ref N), (1, .ref pq), (2, .ref dp)]) hx hb dL_areCanopies_299 hl (k := 5) rfl (nI_1 c1) (by decide) rfl (fun ls hl => ?_)
      refine lv_goto (tgt := 11) hx hb dL_areCanopies_302 (by decide) ?_
      exact kk H locs _ _ ls hG hDp hPk hS (lv_sub hl [0, 1, 2, 3, 6, 7, 8] rfl) (by omega) (by omega)
set_option maxRecDepth 100000 in
set_option maxHeartbeats 4000000 in
theorem zcn_18 (X : zX p m c s args RL cL_areCanopies) (hml : c.maxLocals = 11) (hr : meth.sig.returnType = some .boolean) (hlocks : meth.locks = false) (hl0 : l.stackTraces = false) (C0 : zCx s D cy rf N b L xs ak av) (hP : zP 4 8 3 K bb V σ δ μ τ) (hK : K ≤ 504) (hRD : RD 1 μ0 μ) (hc : c1 < 8) {Q : State → Prop} (kk : ∀ (H : Heap) (locs : List Loc) (cells slots : Nat) (ls : Array Slot), zSA D cy N (zxb N 0 0) (zxa N) σ (zxd N) δ H → zDp D cy dp V H → zPk D cy pq (lpq μ0 8) H → va_S (fun _ => False) s.heap H locs → lv_has ls 11 [(7, .int (nI (c1 + 1))), (6, .int (nI (lpk μ (c1 + 1)))), (4, .long (lheld V μ (c1 + 1))), (3, .int 1), (0, .ref N), (1, .ref pq), (2, .ref dp)] → cells ≤ 1050 * (c1 + 1) → slots ≤ 6 * (1050 * (c1 + 1)) → W p l e (zrx 10 8450 50700) s m args below meth c H locs cells slots Q (F0 m 11 ls [])) (hG : zSA D cy N (zxb N 0 0) (zxa N) σ (zxd N) δ H) (hDp : zDp D cy dp V H) (hPk : zPk D cy pq (lpq μ0 8) H) (hS : va_S (fun _ => False) s.heap H locs) (hl : lv_has ls 11 [(7, .int (nI c1)), (6, .int (nI (lpk μ c1))), (4, .long (lheld V μ c1)), (3, .int 1), (0, .ref N), (1, .ref pq), (2, .ref dp)]) (hcl : cells ≤ 1050 * c1) (hsl : slots ≤ 6 * (1050 * c1)) : W p l e (zrx 10 8450 50700) s m args below meth c H locs cells slots Q (F0 m 18 ls []) := by
  obtain ⟨hx, hb, -, -⟩ := id X
  have hA0 : ∀ q : Nat, (fun _ => False) q → zLA N q := fun q h => h.elim
  have hp86 := pkm_le hP c1
  obtain ⟨hm1, hm2⟩ := pk_rd hRD c1
  refine lv_aload_n hx hb dL_areCanopies_18 rfl (lv_at hl 4 rfl) ?_
  refine lv_iload hx hb dL_areCanopies_19 (lv_at hl 0 rfl) ?_
  refine zlW (As := [.ref N, .int (nI c1)]) (rest := []) X hml C0 hA0 hG (ctL_stateOf l hl0 D cy rf N (zxb N 0 0) (zxa N) σ (zxd N) δ (nI c1) hP.zv (ra_ch hP _)) zmL_stateOf (by decide) m_846 ⟨(Nat.le_of_ble_eq_true rfl), (Nat.le_of_ble_eq_true rfl)⟩ ⟨by show cells + 1 ≤ 8450; omega, by show slots + 6 ≤ 50700; omega⟩ rfl hl.1 rfl (Nat.le_of_ble_eq_true rfl) dL_areCanopies_21 hS (fun q h => h.elim) (fun H locs hG hsz hfr hS => ?_)
  replace hDp := va_at.kept hDp (hfr dp (va_at.lt hDp) (fun z => z))
  replace hPk := va_at.kept hPk (hfr pq (va_at.lt hPk) (fun z => z))
  rw [ra_st hP hc]
  refine lv_i2c (v := zA μ 38 0 c1) hx hb dL_areCanopies_24 (st_c hP hc) ?_
  refine lv_istore (lv' := [(8, .int (zA μ 38 0 c1)), (7, .int (nI c1)), (6, .int (nI (lpk μ c1))), (4, .long (lheld V μ c1)), (3, .int 1), (0, .ref N), (1, .ref pq), (2, .ref dp)]) hx hb dL_areCanopies_25 hl (by decide) rfl (fun ls hl => ?_)
  refine lv_aload_n hx hb dL_areCanopies_27 rfl (lv_at hl 5 rfl) ?_
  refine lv_iload hx hb dL_areCanopies_28 (lv_at hl 1 rfl) ?_
  refine zlW (As := [.ref N, .int (nI c1)]) (rest := []) X hml C0 hA0 hG (ctL_packings l hl0 D cy rf N (zxb N 0 0) (zxa N) σ (zxd N) δ (nI c1) hP.zv) zmL_packings (by decide) m_809 ⟨(Nat.le_of_ble_eq_true rfl), (Nat.le_of_ble_eq_true rfl)⟩ ⟨by show cells + 1 + 1 ≤ 8450; omega, by show slots + 6 + 6 ≤ 50700; omega⟩ rfl hl.1 rfl (Nat.le_of_ble_eq_true rfl) dL_areCanopies_30 hS (fun q h => h.elim) (fun H locs hG hsz hfr hS => ?_)
  replace hDp := va_at.kept hDp (hfr dp (va_at.lt hDp) (fun z => z))
  replace hPk := va_at.kept hPk (hfr pq (va_at.lt hPk) (fun z => z))
  rw [ra_pk hP hc]
  refine lv_istore (lv' := [(9, .int (nI (pkm μ c1))), (8, .int (zA μ 38 0 c1)), (7, .int (nI c1)), (6, .int (nI (lpk μ c1))), (4, .long (lheld V μ c1)), (3, .int 1), (0, .ref N), (1, .ref pq), (2, .ref dp)]) hx hb dL_areCanopies_33 hl (by decide) rfl (fun ls hl => ?_)
  refine lv_iload_n hx hb dL_areCanopies_35 rfl (lv_at hl 5 rfl) ?_
  refine va_ldcS hx hb X.2.2.1 C0.2.2.2.2.2.2 dL_areCanopies_36 ?_
  refine lv_iload hx hb dL_areCanopies_38 (lv_at hl 1 rfl) ?_
  obtain ⟨ki, hki, hM⟩ := ctJ0_indexOf l ak av (st_v hP hc)
  refine zcallVj (As := [.int (zA μ 38 0 c1)]) (rest := [.int 1]) X hml (zCx_st C0 hS hA0) hM zmJ0_indexOf_0f7a4 (by decide) m_1034 (va_Orecv (C0.2.2.2.2.1.1.1 1 (by decide)).1 (zS_up hS hA0)) ⟨(Nat.le_of_ble_eq_true rfl), (Nat.le_of_ble_eq_true rfl)⟩ ⟨by show cells + 1 + 1 ≤ 8450; omega, by show slots + 6 + 6 ≤ 50700; omega⟩ rfl hl.1 rfl (Nat.le_of_ble_eq_true rfl) dL_areCanopies_40 ?_
  refine lv_if_lt (tgt := 131) hx hb dL_areCanopies_43 (by decide) (fun h => absurd h (nI_pos (by omega))) (fun b1 => ?_)
  refine lv_iload hx hb dL_areCanopies_46 (lv_at hl 0 rfl) ?_
  refine lv_aload_n hx hb dL_areCanopies_48 rfl (lv_at hl 7 rfl) ?_
  refine lv_iload hx hb dL_areCanopies_49 (lv_at hl 2 rfl) ?_
  refine zpl hc X C0.1 hPk dL_areCanopies_51 ?_
  rw [show lpq μ0 8 c1 = nI (pkm μ0 c1) from if_pos hc]
  refine lv_icmp_lt (tgt := 131) hx hb dL_areCanopies_52 (by decide) (fun h => absurd h (fun z => absurd ((nI_ltI (by omega) (by omega)).mp z) (by omega))) (fun b2 => ?_)
  refine lv_iload hx hb dL_areCanopies_55 (lv_at hl 0 rfl) ?_
  refine lv_aload_n hx hb dL_areCanopies_57 rfl (lv_at hl 7 rfl) ?_
  refine lv_iload hx hb dL_areCanopies_58 (lv_at hl 2 rfl) ?_
  refine zpl hc X C0.1 hPk dL_areCanopies_60 ?_
  rw [show lpq μ0 8 c1 = nI (pkm μ0 c1) from if_pos hc]
  refine lv_iconst (v := 1) hx hb dL_areCanopies_61 (by decide) ?_
  refine lv_iadd hx hb dL_areCanopies_62 ?_
  rw [show ((nI (pkm μ0 c1)) + 1 : Int32) = nI (pkm μ0 c1 + 1) from (nI_1 _)]
  refine lv_icmp_gt (tgt := 131) hx hb dL_areCanopies_63 (by decide) (fun h => absurd h (fun z => absurd ((nI_ltI (by omega) (by omega)).mp z) (by omega))) (fun b3 => ?_)
  refine lv_iload hx hb dL_areCanopies_66 (lv_at hl 1 rfl) ?_
  refine lv_bipush (v := 107) hx hb dL_areCanopies_68 (by decide) ?_
  refine lv_icmp_eq (tgt := 87) hx hb dL_areCanopies_70 (by decide) (fun b4 => ?_) (fun b4 => ?_)
  · refine lv_iload hx hb dL_areCanopies_87 (lv_at hl 0 rfl) ?_
    refine lv_if_le (tgt := 131) hx hb dL_areCanopies_89 (by decide) (fun h => absurd h (fun z => absurd ((nI_leI (a := pkm μ c1) (b := 0) (by omega) (by decide)).mp z) (by have := pk_pos hP hc (Or.inl b4); omega))) (fun b5 => ?_)
    refine lv_aload_n hx hb dL_areCanopies_92 rfl (lv_at hl 6 rfl) ?_
    refine lv_iload hx hb dL_areCanopies_93 (lv_at hl 2 rfl) ?_
    refine zlW (As := [.ref N, .int (nI c1)]) (rest := [.int 1]) X hml C0 hA0 hG (ctL_jumps l hl0 D cy rf N (zxb N 0 0) (zxa N) σ (zxd N) δ (nI c1) hP.zv) zmL_jumps (by decide) m_1098 ⟨(Nat.le_of_ble_eq_true rfl), (Nat.le_of_ble_eq_true rfl)⟩ ⟨by show cells + 1 + 1 + 1 ≤ 8450; omega, by show slots + 6 + 6 + 6 ≤ 50700; omega⟩ rfl hl.1 rfl (Nat.le_of_ble_eq_true rfl) dL_areCanopies_95 hS (fun q h => h.elim) (fun H locs hG hsz hfr hS => ?_)
    replace hDp := va_at.kept hDp (hfr dp (va_at.lt hDp) (fun z => z))
    replace hPk := va_at.kept hPk (hfr pq (va_at.lt hPk) (fun z => z))
    refine lv_if_lt (tgt := 131) hx hb dL_areCanopies_98 (by decide) (fun h => absurd h (ra_jm hP (by omega) hc)) (fun b6 => ?_)
    refine lv_aload_n hx hb dL_areCanopies_101 rfl (lv_at hl 6 rfl) ?_
    refine lv_iload hx hb dL_areCanopies_102 (lv_at hl 2 rfl) ?_
    refine zlW (As := [.ref N, .int (nI c1)]) (rest := [.int 1]) X hml C0 hA0 hG (ctL_sharers l hl0 D cy rf N (zxb N 0 0) (zxa N) σ (zxd N) δ (nI c1) hP.zv) zmL_sharers (by decide) m_1105 ⟨(Nat.le_of_ble_eq_true rfl), (Nat.le_of_ble_eq_true rfl)⟩ ⟨by show cells + 1 + 1 + 1 + 1 ≤ 8450; omega, by show slots + 6 + 6 + 6 + 6 ≤ 50700; omega⟩ rfl hl.1 rfl (Nat.le_of_ble_eq_true rfl) dL_areCanopies_104 hS (fun q h => h.elim) (fun H locs hG hsz hfr hS => ?_)
    replace hDp := va_at.kept hDp (hfr dp (va_at.lt hDp) (fun z => z))
    replace hPk := va_at.kept hPk (hfr pq (va_at.lt hPk) (fun z => z))
    refine lv_bipush (v := 7) hx hb dL_areCanopies_107 (by decide) ?_
    refine lv_icmp_gt (tgt := 131) hx hb dL_areCanopies_109 (by decide) (fun h => absurd h (ra_sh hP hc)) (fun b7 => ?_)
    refine lv_aload_n hx hb dL_areCanopies_112 rfl (lv_at hl 6 rfl) ?_
    refine lv_iload hx hb dL_areCanopies_113 (lv_at hl 2 rfl) ?_
    refine zlW (As := [.ref N, .int (nI c1)]) (rest := [.int 1]) X hml C0 hA0 hG (ctL_isGrounded l hl0 D cy rf N (zxb N 0 0) (zxa N) σ (zxd N) δ (nI c1) hP.zv) zmL_isGrounded (by decide) m_882 ⟨(Nat.le_of_ble_eq_true rfl), (Nat.le_of_ble_eq_true rfl)⟩ ⟨by show cells + 1 + 1 + 1 + 1 + 1 ≤ 8450; omega, by show slots + 6 + 6 + 6 + 6 + 6 ≤ 50700; omega⟩ rfl hl.1 rfl (Nat.le_of_ble_eq_true rfl) dL_areCanopies_115 hS (fun q h => h.elim) (fun H locs hG hsz hfr hS => ?_)
    replace hDp := va_at.kept hDp (hfr dp (va_at.lt hDp) (fun z => z))
    replace hPk := va_at.kept hPk (hfr pq (va_at.lt hPk) (fun z => z))
    rw [ra_gr hP hc]
    refine lv_aload_n hx hb dL_areCanopies_118 rfl (lv_at hl 6 rfl) ?_
    refine lv_iload hx hb dL_areCanopies_119 (lv_at hl 2 rfl) ?_
    refine zlW (As := [.ref N, .int (nI c1)]) (rest := [.int (bI (y_down μ c1)), .int 1]) X hml C0 hA0 hG (ctL_isGrounded l hl0 D cy rf N (zxb N 0 0) (zxa N) σ (zxd N) δ (nI c1) hP.zv) zmL_isGrounded (by decide) m_882 ⟨(Nat.le_of_ble_eq_true rfl), (Nat.le_of_ble_eq_true rfl)⟩ ⟨by show cells + 1 + 1 + 1 + 1 + 1 + 1 ≤ 8450; omega, by show slots + 6 + 6 + 6 + 6 + 6 + 6 ≤ 50700; omega⟩ rfl hl.1 rfl (Nat.le_of_ble_eq_true rfl) dL_areCanopies_121 hS (fun q h => h.elim) (fun H locs hG hsz hfr hS => ?_)
    replace hDp := va_at.kept hDp (hfr dp (va_at.lt hDp) (fun z => z))
    replace hPk := va_at.kept hPk (hfr pq (va_at.lt hPk) (fun z => z))
    rw [ra_gr hP hc]
    refine lv_icmp_ne (tgt := 131) hx hb dL_areCanopies_124 (by decide) (fun h => absurd h (not_not_intro rfl)) (fun b8 => ?_)
    refine lv_iconst (v := 1) hx hb dL_areCanopies_127 (by decide) ?_
    refine lv_goto (tgt := 132) hx hb dL_areCanopies_128 (by decide) ?_
    refine lv_iand hx hb dL_areCanopies_132 ?_
    rw [show (1 &&& 1 : Int32) = 1 from (by decide)]
    refine lv_istore_n (lv' := [(3, .int 1), (9, .int (nI (pkm μ c1))), (8, .int (zA μ 38 0 c1)), (7, .int (nI c1)), (6, .int (nI (lpk μ c1))), (4, .long (lheld V μ c1)), (0, .ref N), (1, .ref pq), (2, .ref dp)]) hx hb dL_areCanopies_133 rfl hl (by decide) rfl (fun ls hl => ?_)
    refine lv_iconst (v := 0) hx hb dL_areCanopies_134 (by decide) ?_
    refine lv_istore (lv' := [(10, .int 0), (3, .int 1), (9, .int (nI (pkm μ c1))), (8, .int (zA μ 38 0 c1)), (7, .int (nI c1)), (6, .int (nI (lpk μ c1))), (4, .long (lheld V μ c1)), (0, .ref N), (1, .ref pq), (2, .ref dp)]) hx hb dL_areCanopies_135 hl (by decide) rfl (fun ls hl => ?_)
    exact zcn_in X hml hr hlocks hl0 C0 hP hK hc (fun H locs cells slots ls hG hDp hPk hS hl hcl hsl => zcn_239 X hml hr hlocks hl0 C0 hP hK hc kk hG hDp hPk hS hl hcl hsl) (pkm μ c1) 0 (Nat.zero_add _) H locs _ _ ls hG hDp hPk hS (lv_sub hl [0, 2, 3, 4, 5, 6, 1, 7, 8, 9] rfl) (by omega) (by omega)
  · refine lv_iload hx hb dL_areCanopies_73 (lv_at hl 1 rfl) ?_
    refine lv_bipush (v := 97) hx hb dL_areCanopies_75 (by decide) ?_
    refine lv_icmp_eq (tgt := 87) hx hb dL_areCanopies_77 (by decide) (fun b9 => ?_) (fun b9 => ?_)
    · refine lv_iload hx hb dL_areCanopies_87 (lv_at hl 0 rfl) ?_
      refine lv_if_le (tgt := 131) hx hb dL_areCanopies_89 (by decide) (fun h => absurd h (fun z => absurd ((nI_leI (a := pkm μ c1) (b := 0) (by omega) (by decide)).mp z) (by have := pk_pos hP hc (Or.inr (Or.inl b9)); omega))) (fun b10 => ?_)
      refine lv_aload_n hx hb dL_areCanopies_92 rfl (lv_at hl 6 rfl) ?_
      refine lv_iload hx hb dL_areCanopies_93 (lv_at hl 2 rfl) ?_
      refine zlW (As := [.ref N, .int (nI c1)]) (rest := [.int 1]) X hml C0 hA0 hG (ctL_jumps l hl0 D cy rf N (zxb N 0 0) (zxa N) σ (zxd N) δ (nI c1) hP.zv) zmL_jumps (by decide) m_1098 ⟨(Nat.le_of_ble_eq_true rfl), (Nat.le_of_ble_eq_true rfl)⟩ ⟨by show cells + 1 + 1 + 1 ≤ 8450; omega, by show slots + 6 + 6 + 6 ≤ 50700; omega⟩ rfl hl.1 rfl (Nat.le_of_ble_eq_true rfl) dL_areCanopies_95 hS (fun q h => h.elim) (fun H locs hG hsz hfr hS => ?_)
      replace hDp := va_at.kept hDp (hfr dp (va_at.lt hDp) (fun z => z))
      replace hPk := va_at.kept hPk (hfr pq (va_at.lt hPk) (fun z => z))
      refine lv_if_lt (tgt := 131) hx hb dL_areCanopies_98 (by decide) (fun h => absurd h (ra_jm hP (by omega) hc)) (fun b11 => ?_)
      refine lv_aload_n hx hb dL_areCanopies_101 rfl (lv_at hl 6 rfl) ?_
      refine lv_iload hx hb dL_areCanopies_102 (lv_at hl 2 rfl) ?_
      refine zlW (As := [.ref N, .int (nI c1)]) (rest := [.int 1]) X hml C0 hA0 hG (ctL_sharers l hl0 D cy rf N (zxb N 0 0) (zxa N) σ (zxd N) δ (nI c1) hP.zv) zmL_sharers (by decide) m_1105 ⟨(Nat.le_of_ble_eq_true rfl), (Nat.le_of_ble_eq_true rfl)⟩ ⟨by show cells + 1 + 1 + 1 + 1 ≤ 8450; omega, by show slots + 6 + 6 + 6 + 6 ≤ 50700; omega⟩ rfl hl.1 rfl (Nat.le_of_ble_eq_true rfl) dL_areCanopies_104 hS (fun q h => h.elim) (fun H locs hG hsz hfr hS => ?_)
      replace hDp := va_at.kept hDp (hfr dp (va_at.lt hDp) (fun z => z))
      replace hPk := va_at.kept hPk (hfr pq (va_at.lt hPk) (fun z => z))
      refine lv_bipush (v := 7) hx hb dL_areCanopies_107 (by decide) ?_
      refine lv_icmp_gt (tgt := 131) hx hb dL_areCanopies_109 (by decide) (fun h => absurd h (ra_sh hP hc)) (fun b12 => ?_)
      refine lv_aload_n hx hb dL_areCanopies_112 rfl (lv_at hl 6 rfl) ?_
      refine lv_iload hx hb dL_areCanopies_113 (lv_at hl 2 rfl) ?_
      refine zlW (As := [.ref N, .int (nI c1)]) (rest := [.int 1]) X hml C0 hA0 hG (ctL_isGrounded l hl0 D cy rf N (zxb N 0 0) (zxa N) σ (zxd N) δ (nI c1) hP.zv) zmL_isGrounded (by decide) m_882 ⟨(Nat.le_of_ble_eq_true rfl), (Nat.le_of_ble_eq_true rfl)⟩ ⟨by show cells + 1 + 1 + 1 + 1 + 1 ≤ 8450; omega, by show slots + 6 + 6 + 6 + 6 + 6 ≤ 50700; omega⟩ rfl hl.1 rfl (Nat.le_of_ble_eq_true rfl) dL_areCanopies_115 hS (fun q h => h.elim) (fun H locs hG hsz hfr hS => ?_)
      replace hDp := va_at.kept hDp (hfr dp (va_at.lt hDp) (fun z => z))
      replace hPk := va_at.kept hPk (hfr pq (va_at.lt hPk) (fun z => z))
      rw [ra_gr hP hc]
      refine lv_aload_n hx hb dL_areCanopies_118 rfl (lv_at hl 6 rfl) ?_
      refine lv_iload hx hb dL_areCanopies_119 (lv_at hl 2 rfl) ?_
      refine zlW (As := [.ref N, .int (nI c1)]) (rest := [.int (bI (y_down μ c1)), .int 1]) X hml C0 hA0 hG (ctL_isGrounded l hl0 D cy rf N (zxb N 0 0) (zxa N) σ (zxd N) δ (nI c1) hP.zv) zmL_isGrounded (by decide) m_882 ⟨(Nat.le_of_ble_eq_true rfl), (Nat.le_of_ble_eq_true rfl)⟩ ⟨by show cells + 1 + 1 + 1 + 1 + 1 + 1 ≤ 8450; omega, by show slots + 6 + 6 + 6 + 6 + 6 + 6 ≤ 50700; omega⟩ rfl hl.1 rfl (Nat.le_of_ble_eq_true rfl) dL_areCanopies_121 hS (fun q h => h.elim) (fun H locs hG hsz hfr hS => ?_)
      replace hDp := va_at.kept hDp (hfr dp (va_at.lt hDp) (fun z => z))
      replace hPk := va_at.kept hPk (hfr pq (va_at.lt hPk) (fun z => z))
      rw [ra_gr hP hc]
      refine lv_icmp_ne (tgt := 131) hx hb dL_areCanopies_124 (by decide) (fun h => absurd h (not_not_intro rfl)) (fun b13 => ?_)
      refine lv_iconst (v := 1) hx hb dL_areCanopies_127 (by decide) ?_
      refine lv_goto (tgt := 132) hx hb dL_areCanopies_128 (by decide) ?_
      refine lv_iand hx hb dL_areCanopies_132 ?_
      rw [show (1 &&& 1 : Int32) = 1 from (by decide)]
      refine lv_istore_n (lv' := [(3, .int 1), (9, .int (nI (pkm μ c1))), (8, .int (zA μ 38 0 c1)), (7, .int (nI c1)), (6, .int (nI (lpk μ c1))), (4, .long (lheld V μ c1)), (0, .ref N), (1, .ref pq), (2, .ref dp)]) hx hb dL_areCanopies_133 rfl hl (by decide) rfl (fun ls hl => ?_)
      refine lv_iconst (v := 0) hx hb dL_areCanopies_134 (by decide) ?_
      refine lv_istore (lv' := [(10, .int 0), (3, .int 1), (9, .int (nI (pkm μ c1))), (8, .int (zA μ 38 0 c1)), (7, .int (nI c1)), (6, .int (nI (lpk μ c1))), (4, .long (lheld V μ c1)), (0, .ref N), (1, .ref pq), (2, .ref dp)]) hx hb dL_areCanopies_135 hl (by decide) rfl (fun ls hl => ?_)
      exact zcn_in X hml hr hlocks hl0 C0 hP hK hc (fun H locs cells slots ls hG hDp hPk hS hl hcl hsl => zcn_239 X hml hr hlocks hl0 C0 hP hK hc kk hG hDp hPk hS hl hcl hsl) (pkm μ c1) 0 (Nat.zero_add _) H locs _ _ ls hG hDp hPk hS (lv_sub hl [0, 2, 3, 4, 5, 6, 1, 7, 8, 9] rfl) (by omega) (by omega)
    · refine lv_iload hx hb dL_areCanopies_80 (lv_at hl 1 rfl) ?_
      refine lv_bipush (v := 104) hx hb dL_areCanopies_82 (by decide) ?_
      refine lv_icmp_ne (tgt := 92) hx hb dL_areCanopies_84 (by decide) (fun b14 => ?_) (fun b14 => ?_)
      · refine lv_aload_n hx hb dL_areCanopies_92 rfl (lv_at hl 6 rfl) ?_
        refine lv_iload hx hb dL_areCanopies_93 (lv_at hl 2 rfl) ?_
        refine zlW (As := [.ref N, .int (nI c1)]) (rest := [.int 1]) X hml C0 hA0 hG (ctL_jumps l hl0 D cy rf N (zxb N 0 0) (zxa N) σ (zxd N) δ (nI c1) hP.zv) zmL_jumps (by decide) m_1098 ⟨(Nat.le_of_ble_eq_true rfl), (Nat.le_of_ble_eq_true rfl)⟩ ⟨by show cells + 1 + 1 + 1 ≤ 8450; omega, by show slots + 6 + 6 + 6 ≤ 50700; omega⟩ rfl hl.1 rfl (Nat.le_of_ble_eq_true rfl) dL_areCanopies_95 hS (fun q h => h.elim) (fun H locs hG hsz hfr hS => ?_)
        replace hDp := va_at.kept hDp (hfr dp (va_at.lt hDp) (fun z => z))
        replace hPk := va_at.kept hPk (hfr pq (va_at.lt hPk) (fun z => z))
        refine lv_if_lt (tgt := 131) hx hb dL_areCanopies_98 (by decide) (fun h => absurd h (ra_jm hP (by omega) hc)) (fun b15 => ?_)
        refine lv_aload_n hx hb dL_areCanopies_101 rfl (lv_at hl 6 rfl) ?_
        refine lv_iload hx hb dL_areCanopies_102 (lv_at hl 2 rfl) ?_
        refine zlW (As := [.ref N, .int (nI c1)]) (rest := [.int 1]) X hml C0 hA0 hG (ctL_sharers l hl0 D cy rf N (zxb N 0 0) (zxa N) σ (zxd N) δ (nI c1) hP.zv) zmL_sharers (by decide) m_1105 ⟨(Nat.le_of_ble_eq_true rfl), (Nat.le_of_ble_eq_true rfl)⟩ ⟨by show cells + 1 + 1 + 1 + 1 ≤ 8450; omega, by show slots + 6 + 6 + 6 + 6 ≤ 50700; omega⟩ rfl hl.1 rfl (Nat.le_of_ble_eq_true rfl) dL_areCanopies_104 hS (fun q h => h.elim) (fun H locs hG hsz hfr hS => ?_)
        replace hDp := va_at.kept hDp (hfr dp (va_at.lt hDp) (fun z => z))
        replace hPk := va_at.kept hPk (hfr pq (va_at.lt hPk) (fun z => z))
        refine lv_bipush (v := 7) hx hb dL_areCanopies_107 (by decide) ?_
        refine lv_icmp_gt (tgt := 131) hx hb dL_areCanopies_109 (by decide) (fun h => absurd h (ra_sh hP hc)) (fun b16 => ?_)
        refine lv_aload_n hx hb dL_areCanopies_112 rfl (lv_at hl 6 rfl) ?_
        refine lv_iload hx hb dL_areCanopies_113 (lv_at hl 2 rfl) ?_
        refine zlW (As := [.ref N, .int (nI c1)]) (rest := [.int 1]) X hml C0 hA0 hG (ctL_isGrounded l hl0 D cy rf N (zxb N 0 0) (zxa N) σ (zxd N) δ (nI c1) hP.zv) zmL_isGrounded (by decide) m_882 ⟨(Nat.le_of_ble_eq_true rfl), (Nat.le_of_ble_eq_true rfl)⟩ ⟨by show cells + 1 + 1 + 1 + 1 + 1 ≤ 8450; omega, by show slots + 6 + 6 + 6 + 6 + 6 ≤ 50700; omega⟩ rfl hl.1 rfl (Nat.le_of_ble_eq_true rfl) dL_areCanopies_115 hS (fun q h => h.elim) (fun H locs hG hsz hfr hS => ?_)
        replace hDp := va_at.kept hDp (hfr dp (va_at.lt hDp) (fun z => z))
        replace hPk := va_at.kept hPk (hfr pq (va_at.lt hPk) (fun z => z))
        rw [ra_gr hP hc]
        refine lv_aload_n hx hb dL_areCanopies_118 rfl (lv_at hl 6 rfl) ?_
        refine lv_iload hx hb dL_areCanopies_119 (lv_at hl 2 rfl) ?_
        refine zlW (As := [.ref N, .int (nI c1)]) (rest := [.int (bI (y_down μ c1)), .int 1]) X hml C0 hA0 hG (ctL_isGrounded l hl0 D cy rf N (zxb N 0 0) (zxa N) σ (zxd N) δ (nI c1) hP.zv) zmL_isGrounded (by decide) m_882 ⟨(Nat.le_of_ble_eq_true rfl), (Nat.le_of_ble_eq_true rfl)⟩ ⟨by show cells + 1 + 1 + 1 + 1 + 1 + 1 ≤ 8450; omega, by show slots + 6 + 6 + 6 + 6 + 6 + 6 ≤ 50700; omega⟩ rfl hl.1 rfl (Nat.le_of_ble_eq_true rfl) dL_areCanopies_121 hS (fun q h => h.elim) (fun H locs hG hsz hfr hS => ?_)
        replace hDp := va_at.kept hDp (hfr dp (va_at.lt hDp) (fun z => z))
        replace hPk := va_at.kept hPk (hfr pq (va_at.lt hPk) (fun z => z))
        rw [ra_gr hP hc]
        refine lv_icmp_ne (tgt := 131) hx hb dL_areCanopies_124 (by decide) (fun h => absurd h (not_not_intro rfl)) (fun b17 => ?_)
        refine lv_iconst (v := 1) hx hb dL_areCanopies_127 (by decide) ?_
        refine lv_goto (tgt := 132) hx hb dL_areCanopies_128 (by decide) ?_
        refine lv_iand hx hb dL_areCanopies_132 ?_
        rw [show (1 &&& 1 : Int32) = 1 from (by decide)]
        refine lv_istore_n (lv' := [(3, .int 1), (9, .int (nI (pkm μ c1))), (8, .int (zA μ 38 0 c1)), (7, .int (nI c1)), (6, .int (nI (lpk μ c1))), (4, .long (lheld V μ c1)), (0, .ref N), (1, .ref pq), (2, .ref dp)]) hx hb dL_areCanopies_133 rfl hl (by decide) rfl (fun ls hl => ?_)
        refine lv_iconst (v := 0) hx hb dL_areCanopies_134 (by decide) ?_
        refine lv_istore (lv' := [(10, .int 0), (3, .int 1), (9, .int (nI (pkm μ c1))), (8, .int (zA μ 38 0 c1)), (7, .int (nI c1)), (6, .int (nI (lpk μ c1))), (4, .long (lheld V μ c1)), (0, .ref N), (1, .ref pq), (2, .ref dp)]) hx hb dL_areCanopies_135 hl (by decide) rfl (fun ls hl => ?_)
        exact zcn_in X hml hr hlocks hl0 C0 hP hK hc (fun H locs cells slots ls hG hDp hPk hS hl hcl hsl => zcn_239 X hml hr hlocks hl0 C0 hP hK hc kk hG hDp hPk hS hl hcl hsl) (pkm μ c1) 0 (Nat.zero_add _) H locs _ _ ls hG hDp hPk hS (lv_sub hl [0, 2, 3, 4, 5, 6, 1, 7, 8, 9] rfl) (by omega) (by omega)
      · refine lv_iload hx hb dL_areCanopies_87 (lv_at hl 0 rfl) ?_
        refine lv_if_le (tgt := 131) hx hb dL_areCanopies_89 (by decide) (fun h => absurd h (fun z => absurd ((nI_leI (a := pkm μ c1) (b := 0) (by omega) (by decide)).mp z) (by have := pk_pos hP hc (Or.inr (Or.inr b14)); omega))) (fun b18 => ?_)
        refine lv_aload_n hx hb dL_areCanopies_92 rfl (lv_at hl 6 rfl) ?_
        refine lv_iload hx hb dL_areCanopies_93 (lv_at hl 2 rfl) ?_
        refine zlW (As := [.ref N, .int (nI c1)]) (rest := [.int 1]) X hml C0 hA0 hG (ctL_jumps l hl0 D cy rf N (zxb N 0 0) (zxa N) σ (zxd N) δ (nI c1) hP.zv) zmL_jumps (by decide) m_1098 ⟨(Nat.le_of_ble_eq_true rfl), (Nat.le_of_ble_eq_true rfl)⟩ ⟨by show cells + 1 + 1 + 1 ≤ 8450; omega, by show slots + 6 + 6 + 6 ≤ 50700; omega⟩ rfl hl.1 rfl (Nat.le_of_ble_eq_true rfl) dL_areCanopies_95 hS (fun q h => h.elim) (fun H locs hG hsz hfr hS => ?_)
        replace hDp := va_at.kept hDp (hfr dp (va_at.lt hDp) (fun z => z))
        replace hPk := va_at.kept hPk (hfr pq (va_at.lt hPk) (fun z => z))
        refine lv_if_lt (tgt := 131) hx hb dL_areCanopies_98 (by decide) (fun h => absurd h (ra_jm hP (by omega) hc)) (fun b19 => ?_)
        refine lv_aload_n hx hb dL_areCanopies_101 rfl (lv_at hl 6 rfl) ?_
        refine lv_iload hx hb dL_areCanopies_102 (lv_at hl 2 rfl) ?_
        refine zlW (As := [.ref N, .int (nI c1)]) (rest := [.int 1]) X hml C0 hA0 hG (ctL_sharers l hl0 D cy rf N (zxb N 0 0) (zxa N) σ (zxd N) δ (nI c1) hP.zv) zmL_sharers (by decide) m_1105 ⟨(Nat.le_of_ble_eq_true rfl), (Nat.le_of_ble_eq_true rfl)⟩ ⟨by show cells + 1 + 1 + 1 + 1 ≤ 8450; omega, by show slots + 6 + 6 + 6 + 6 ≤ 50700; omega⟩ rfl hl.1 rfl (Nat.le_of_ble_eq_true rfl) dL_areCanopies_104 hS (fun q h => h.elim) (fun H locs hG hsz hfr hS => ?_)
        replace hDp := va_at.kept hDp (hfr dp (va_at.lt hDp) (fun z => z))
        replace hPk := va_at.kept hPk (hfr pq (va_at.lt hPk) (fun z => z))
        refine lv_bipush (v := 7) hx hb dL_areCanopies_107 (by decide) ?_
        refine lv_icmp_gt (tgt := 131) hx hb dL_areCanopies_109 (by decide) (fun h => absurd h (ra_sh hP hc)) (fun b20 => ?_)
        refine lv_aload_n hx hb dL_areCanopies_112 rfl (lv_at hl 6 rfl) ?_
        refine lv_iload hx hb dL_areCanopies_113 (lv_at hl 2 rfl) ?_
        refine zlW (As := [.ref N, .int (nI c1)]) (rest := [.int 1]) X hml C0 hA0 hG (ctL_isGrounded l hl0 D cy rf N (zxb N 0 0) (zxa N) σ (zxd N) δ (nI c1) hP.zv) zmL_isGrounded (by decide) m_882 ⟨(Nat.le_of_ble_eq_true rfl), (Nat.le_of_ble_eq_true rfl)⟩ ⟨by show cells + 1 + 1 + 1 + 1 + 1 ≤ 8450; omega, by show slots + 6 + 6 + 6 + 6 + 6 ≤ 50700; omega⟩ rfl hl.1 rfl (Nat.le_of_ble_eq_true rfl) dL_areCanopies_115 hS (fun q h => h.elim) (fun H locs hG hsz hfr hS => ?_)
        replace hDp := va_at.kept hDp (hfr dp (va_at.lt hDp) (fun z => z))
        replace hPk := va_at.kept hPk (hfr pq (va_at.lt hPk) (fun z => z))
        rw [ra_gr hP hc]
        refine lv_aload_n hx hb dL_areCanopies_118 rfl (lv_at hl 6 rfl) ?_
        refine lv_iload hx hb dL_areCanopies_119 (lv_at hl 2 rfl) ?_
        refine zlW (As := [.ref N, .int (nI c1)]) (rest := [.int (bI (y_down μ c1)), .int 1]) X hml C0 hA0 hG (ctL_isGrounded l hl0 D cy rf N (zxb N 0 0) (zxa N) σ (zxd N) δ (nI c1) hP.zv) zmL_isGrounded (by decide) m_882 ⟨(Nat.le_of_ble_eq_true rfl), (Nat.le_of_ble_eq_true rfl)⟩ ⟨by show cells + 1 + 1 + 1 + 1 + 1 + 1 ≤ 8450; omega, by show slots + 6 + 6 + 6 + 6 + 6 + 6 ≤ 50700; omega⟩ rfl hl.1 rfl (Nat.le_of_ble_eq_true rfl) dL_areCanopies_121 hS (fun q h => h.elim) (fun H locs hG hsz hfr hS => ?_)
        replace hDp := va_at.kept hDp (hfr dp (va_at.lt hDp) (fun z => z))
        replace hPk := va_at.kept hPk (hfr pq (va_at.lt hPk) (fun z => z))
        rw [ra_gr hP hc]
        refine lv_icmp_ne (tgt := 131) hx hb dL_areCanopies_124 (by decide) (fun h => absurd h (not_not_intro rfl)) (fun b21 => ?_)
        refine lv_iconst (v := 1) hx hb dL_areCanopies_127 (by decide) ?_
        refine lv_goto (tgt := 132) hx hb dL_areCanopies_128 (by decide) ?_
        refine lv_iand hx hb dL_areCanopies_132 ?_
        rw [show (1 &&& 1 : Int32) = 1 from (by decide)]
        refine lv_istore_n (lv' := [(3, .int 1), (9, .int (nI (pkm μ c1))), (8, .int (zA μ 38 0 c1)), (7, .int (nI c1)), (6, .int (nI (lpk μ c1))), (4, .long (lheld V μ c1)), (0, .ref N), (1, .ref pq), (2, .ref dp)]) hx hb dL_areCanopies_133 rfl hl (by decide) rfl (fun ls hl => ?_)
        refine lv_iconst (v := 0) hx hb dL_areCanopies_134 (by decide) ?_
        refine lv_istore (lv' := [(10, .int 0), (3, .int 1), (9, .int (nI (pkm μ c1))), (8, .int (zA μ 38 0 c1)), (7, .int (nI c1)), (6, .int (nI (lpk μ c1))), (4, .long (lheld V μ c1)), (0, .ref N), (1, .ref pq), (2, .ref dp)]) hx hb dL_areCanopies_135 hl (by decide) rfl (fun ls hl => ?_)
        exact zcn_in X hml hr hlocks hl0 C0 hP hK hc (fun H locs cells slots ls hG hDp hPk hS hl hcl hsl => zcn_239 X hml hr hlocks hl0 C0 hP hK hc kk hG hDp hPk hS hl hcl hsl) (pkm μ c1) 0 (Nat.zero_add _) H locs _ _ ls hG hDp hPk hS (lv_sub hl [0, 2, 3, 4, 5, 6, 1, 7, 8, 9] rfl) (by omega) (by omega)
set_option maxRecDepth 100000 in
set_option maxHeartbeats 4000000 in
theorem zcn_out (X : zX p m c s args RL cL_areCanopies) (hml : c.maxLocals = 11) (hr : meth.sig.returnType = some .boolean) (hlocks : meth.locks = false) (hl0 : l.stackTraces = false) (C0 : zCx s D cy rf N b L xs ak av) (hP : zP 4 8 3 K bb V σ δ μ τ) (hK : K ≤ 504) (hRD : RD 1 μ0 μ) {Q : State → Prop} (kk : ∀ (H : Heap) (locs : List Loc) (cells slots : Nat) (ls : Array Slot), zSA D cy N (zxb N 0 0) (zxa N) σ (zxd N) δ H → zDp D cy dp V H → zPk D cy pq (lpq μ0 8) H → va_S (fun _ => False) s.heap H locs → lv_has ls 11 [(6, .int (nI (lpk μ 8))), (4, .long (lheld V μ 8)), (3, .int 1), (0, .ref N), (1, .ref pq), (2, .ref dp)] → cells ≤ 8400 → slots ≤ 50400 → W p l e (zrx 10 8450 50700) s m args below meth c H locs cells slots Q (F0 m 305 ls [])) : ∀ (k j : Nat), j + k = 8 → ∀ (H : Heap) (locs : List Loc) (cells slots : Nat) (ls : Array Slot), zSA D cy N (zxb N 0 0) (zxa N) σ (zxd N) δ H → zDp D cy dp V H → zPk D cy pq (lpq μ0 8) H → va_S (fun _ => False) s.heap H locs → lv_has ls 11 [(7, .int (nI j)), (6, .int (nI (lpk μ j))), (4, .long (lheld V μ j)), (3, .int 1), (0, .ref N), (1, .ref pq), (2, .ref dp)] → cells ≤ 1050 * j → slots ≤ 6 * (1050 * j) → W p l e (zrx 10 8450 50700) s m args below meth c H locs cells slots Q (F0 m 11 ls []) := by
  obtain ⟨hx, hb, -, -⟩ := id X
  intro k
  induction k with
  | zero =>
    intro j hj H locs cells slots ls hG hDp hPk hS hl hcl hsl
    have hj : j = 8 := hj
    subst hj
    refine lv_iload hx hb dL_areCanopies_11 (lv_at hl 0 rfl) ?_
    refine lv_bipush (v := 8) hx hb dL_areCanopies_13 (by decide) ?_
    refine lv_icmp_ge (tgt := 305) hx hb dL_areCanopies_15 (by decide) (fun b1 => ?_) (fun h => absurd (Int32.le_refl _) h)
    exact kk H locs cells slots ls hG hDp hPk hS (lv_sub hl [1, 2, 3, 4, 5, 6] rfl) (by omega) (by omega)
  | succ k ih =>
    intro j hj H locs cells slots ls hG hDp hPk hS hl hcl hsl
    refine lv_iload hx hb dL_areCanopies_11 (lv_at hl 0 rfl) ?_
    refine lv_bipush (v := 8) hx hb dL_areCanopies_13 (by decide) ?_
    refine lv_icmp_ge (tgt := 305) hx hb dL_areCanopies_15 (by decide) (fun h => absurd h (fun z => absurd ((nI_leI (a := 8) (b := j) (by decide) (by omega)).mp z) (by omega))) (fun b1 => ?_)
    exact zcn_18 X hml hr hlocks hl0 C0 hP hK hRD (show j < 8 by omega) (fun H locs cells slots ls hG hDp hPk hS hl hcl hsl => ih (j + 1) (by omega) H locs cells slots ls hG hDp hPk hS hl hcl hsl) hG hDp hPk hS (lv_sub hl [0, 1, 2, 3, 4, 5, 6] rfl) hcl hsl
set_option maxRecDepth 100000 in
set_option maxHeartbeats 4000000 in
theorem zcn_305 (X : zX p m c s args RL cL_areCanopies) (hml : c.maxLocals = 11) (hr : meth.sig.returnType = some .boolean) (hlocks : meth.locks = false) (hl0 : l.stackTraces = false) (C0 : zCx s D cy rf N b L xs ak av) (hP : zP 4 8 3 K bb V σ δ μ τ) (hK : K ≤ 504) (hG : zSA D cy N (zxb N 0 0) (zxa N) σ (zxd N) δ H) (hDp : zDp D cy dp V H) (hPk : zPk D cy pq (lpq μ0 8) H) (hS : va_S (fun _ => False) s.heap H locs) (hl : lv_has ls 11 [(6, .int (nI (lpk μ 8))), (4, .long (lheld V μ 8)), (3, .int 1), (0, .ref N), (1, .ref pq), (2, .ref dp)]) (hcl : cells ≤ 8400) (hsl : slots ≤ 50400) : W p l e (zrx 10 8450 50700) s m args below meth c H locs cells slots (MQ below (zqM (some (.int (bI true))) (zSA D cy N (zxb N 0 0) (zxa N) σ (zxd N) δ) (fun _ => False)) args s 8450 50700 (fun _ => False)) (F0 m 305 ls []) := by
  obtain ⟨hx, hb, -, -⟩ := id X
  have hA0 : ∀ q : Nat, (fun _ => False) q → zLA N q := fun q h => h.elim
  refine lv_aload_n hx hb dL_areCanopies_305 rfl (lv_at hl 3 rfl) ?_
  refine zlW (As := [.ref N]) (rest := []) X hml C0 hA0 hG (ctL_groundedShare l hl0 D cy rf N (zxb N 0 0) (zxa N) σ (zxd N) δ  hP.zv (none_0 hP)) zmL_groundedShare (by decide) m_1134 ⟨(Nat.le_of_ble_eq_true rfl), (Nat.le_of_ble_eq_true rfl)⟩ ⟨by show cells + 1 ≤ 8450; omega, by show slots + 6 ≤ 50700; omega⟩ rfl hl.1 rfl (Nat.le_of_ble_eq_true rfl) dL_areCanopies_306 hS (fun q h => h.elim) (fun H locs hG hsz hfr hS => ?_)
  replace hDp := va_at.kept hDp (hfr dp (va_at.lt hDp) (fun z => z))
  replace hPk := va_at.kept hPk (hfr pq (va_at.lt hPk) (fun z => z))
  refine lv_fstore (lv' := [(7, .float (k_gs σ)), (6, .int (nI (lpk μ 8))), (4, .long (lheld V μ 8)), (3, .int 1), (0, .ref N), (1, .ref pq), (2, .ref dp)]) hx hb dL_areCanopies_309 hl (by decide) rfl (fun ls hl => ?_)
  refine lv_aload_n hx hb dL_areCanopies_311 rfl (lv_at hl 4 rfl) ?_
  refine zlW (As := [.ref N]) (rest := []) X hml C0 hA0 hG (ctL_next l hl0 D cy rf N (zxb N 0 0) (zxa N) σ (zxd N) δ  hP.zv) zmL_next (by decide) m_1163 ⟨(Nat.le_of_ble_eq_true rfl), (Nat.le_of_ble_eq_true rfl)⟩ ⟨by show cells + 1 + 1 ≤ 8450; omega, by show slots + 6 + 6 ≤ 50700; omega⟩ rfl hl.1 rfl (Nat.le_of_ble_eq_true rfl) dL_areCanopies_312 hS (fun q h => h.elim) (fun H locs hG hsz hfr hS => ?_)
  replace hDp := va_at.kept hDp (hfr dp (va_at.lt hDp) (fun z => z))
  replace hPk := va_at.kept hPk (hfr pq (va_at.lt hPk) (fun z => z))
  rcases ra_nx hP with ex | ⟨cx, hcx, ex, ex2, ex3, ex4⟩
  · rw [ex]
    refine lv_istore (lv' := [(8, .int (-75)), (7, .float (k_gs σ)), (6, .int (nI (lpk μ 8))), (4, .long (lheld V μ 8)), (3, .int 1), (0, .ref N), (1, .ref pq), (2, .ref dp)]) hx hb dL_areCanopies_315 hl (by decide) rfl (fun ls hl => ?_)
    refine lv_iload_n hx hb dL_areCanopies_317 rfl (lv_at hl 4 rfl) ?_
    refine lv_if_eq (tgt := 400) hx hb dL_areCanopies_318 (by decide) (fun h => absurd h (by decide)) (fun _ => ?_)
    refine lv_aload_n hx hb dL_areCanopies_321 rfl (lv_at hl 5 rfl) ?_
    refine zlV (rest := []) X hml C0 hA0 hG (ctX9_held l hl0 D cy rf N (zxb N 0 0) (zxa N) σ (zxd N) δ hP.zv) zmX9_held (by decide) m_1191 ⟨(Nat.le_of_ble_eq_true rfl), (Nat.le_of_ble_eq_true rfl)⟩ ⟨by show cells + 1 + 1 + 1 ≤ 8450; omega, by show slots + 6 + 6 + 6 ≤ 50700; omega⟩ hl.1 (Nat.le_of_ble_eq_true rfl) dL_areCanopies_322 hS (fun H locs hG hsz hfr hS => ?_)
    replace hDp := va_at.kept hDp (hfr dp (va_at.lt hDp))
    replace hPk := va_at.kept hPk (hfr pq (va_at.lt hPk))
    rw [held_ok hP]
    refine lv_lload hx hb dL_areCanopies_325 (lv_at hl 3 rfl) ?_
    refine W.lcmp hx hb dL_areCanopies_327 ?_
    refine lv_if_ne (tgt := 400) hx hb dL_areCanopies_328 (by decide) (fun h => absurd h (not_not_intro (lg_self _))) (fun b2 => ?_)
    refine lv_iload hx hb dL_areCanopies_331 (lv_at hl 2 rfl) ?_
    refine lv_bipush (v := 6) hx hb dL_areCanopies_333 (by decide) ?_
    refine lv_icmp_gt (tgt := 400) hx hb dL_areCanopies_335 (by decide) (fun h => absurd h (lpk_le hP)) (fun b3 => ?_)
    refine lv_fload hx hb dL_areCanopies_338 (lv_at hl 1 rfl) ?_
    refine lv_fconst0 hx hb dL_areCanopies_340 ?_
    refine lv_fcmp hx hb dL_areCanopies_341 ?_
    refine lv_if_lt (tgt := 400) hx hb dL_areCanopies_342 (by decide) (fun h => absurd h (share_ok hP).1) (fun b4 => ?_)
    refine lv_fload hx hb dL_areCanopies_345 (lv_at hl 1 rfl) ?_
    refine lv_fconst1 hx hb dL_areCanopies_347 ?_
    refine lv_fcmp hx hb dL_areCanopies_348 ?_
    refine lv_if_gt (tgt := 400) hx hb dL_areCanopies_349 (by decide) (fun h => absurd h (share_ok hP).2) (fun b5 => ?_)
    refine lv_aload_n hx hb dL_areCanopies_352 rfl (lv_at hl 5 rfl) ?_
    refine zlW (As := [.ref N]) (rest := []) X hml C0 hA0 hG (ctL_meanDrops l hl0 D cy rf N (zxb N 0 0) (zxa N) σ (zxd N) δ  hP.zv (none_0 hP)) zmL_meanDrops (by decide) m_1199 ⟨(Nat.le_of_ble_eq_true rfl), (Nat.le_of_ble_eq_true rfl)⟩ ⟨by show cells + 1 + 1 + 1 + 1 ≤ 8450; omega, by show slots + 6 + 6 + 6 + 6 ≤ 50700; omega⟩ rfl hl.1 rfl (Nat.le_of_ble_eq_true rfl) dL_areCanopies_353 hS (fun q h => h.elim) (fun H locs hG hsz hfr hS => ?_)
    replace hDp := va_at.kept hDp (hfr dp (va_at.lt hDp) (fun z => z))
    replace hPk := va_at.kept hPk (hfr pq (va_at.lt hPk) (fun z => z))
    refine lv_dconst0 hx hb dL_areCanopies_356 ?_
    refine lv_dcmp hx hb dL_areCanopies_357 ?_
    refine lv_if_lt (tgt := 400) hx hb dL_areCanopies_358 (by decide) (fun h => absurd h (mean_ok hP (by omega))) (fun b6 => ?_)
    refine lv_iload hx hb dL_areCanopies_361 (lv_at hl 0 rfl) ?_
    refine lv_bipush (v := (-75)) hx hb dL_areCanopies_363 (by decide) ?_
    refine lv_icmp_eq (tgt := 396) hx hb dL_areCanopies_365 (by decide) (fun _ => ?_) (fun h => absurd h (by decide))
    refine lv_iconst (v := 1) hx hb dL_areCanopies_396 (by decide) ?_
    refine lv_goto (tgt := 401) hx hb dL_areCanopies_397 (by decide) ?_
    exact zo_z (b := true) hx hb hr hlocks rfl hG hS (by omega) (by omega) dL_areCanopies_401
  · rw [ex]
    refine lv_istore (lv' := [(8, .int (nI cx)), (7, .float (k_gs σ)), (6, .int (nI (lpk μ 8))), (4, .long (lheld V μ 8)), (3, .int 1), (0, .ref N), (1, .ref pq), (2, .ref dp)]) hx hb dL_areCanopies_315 hl (by decide) rfl (fun ls hl => ?_)
    refine lv_iload_n hx hb dL_areCanopies_317 rfl (lv_at hl 4 rfl) ?_
    refine lv_if_eq (tgt := 400) hx hb dL_areCanopies_318 (by decide) (fun h => absurd h (by decide)) (fun _ => ?_)
    refine lv_aload_n hx hb dL_areCanopies_321 rfl (lv_at hl 5 rfl) ?_
    refine zlV (rest := []) X hml C0 hA0 hG (ctX9_held l hl0 D cy rf N (zxb N 0 0) (zxa N) σ (zxd N) δ hP.zv) zmX9_held (by decide) m_1191 ⟨(Nat.le_of_ble_eq_true rfl), (Nat.le_of_ble_eq_true rfl)⟩ ⟨by show cells + 1 + 1 + 1 ≤ 8450; omega, by show slots + 6 + 6 + 6 ≤ 50700; omega⟩ hl.1 (Nat.le_of_ble_eq_true rfl) dL_areCanopies_322 hS (fun H locs hG hsz hfr hS => ?_)
    replace hDp := va_at.kept hDp (hfr dp (va_at.lt hDp))
    replace hPk := va_at.kept hPk (hfr pq (va_at.lt hPk))
    rw [held_ok hP]
    refine lv_lload hx hb dL_areCanopies_325 (lv_at hl 3 rfl) ?_
    refine W.lcmp hx hb dL_areCanopies_327 ?_
    refine lv_if_ne (tgt := 400) hx hb dL_areCanopies_328 (by decide) (fun h => absurd h (not_not_intro (lg_self _))) (fun b9 => ?_)
    refine lv_iload hx hb dL_areCanopies_331 (lv_at hl 2 rfl) ?_
    refine lv_bipush (v := 6) hx hb dL_areCanopies_333 (by decide) ?_
    refine lv_icmp_gt (tgt := 400) hx hb dL_areCanopies_335 (by decide) (fun h => absurd h (lpk_le hP)) (fun b10 => ?_)
    refine lv_fload hx hb dL_areCanopies_338 (lv_at hl 1 rfl) ?_
    refine lv_fconst0 hx hb dL_areCanopies_340 ?_
    refine lv_fcmp hx hb dL_areCanopies_341 ?_
    refine lv_if_lt (tgt := 400) hx hb dL_areCanopies_342 (by decide) (fun h => absurd h (share_ok hP).1) (fun b11 => ?_)
    refine lv_fload hx hb dL_areCanopies_345 (lv_at hl 1 rfl) ?_
    refine lv_fconst1 hx hb dL_areCanopies_347 ?_
    refine lv_fcmp hx hb dL_areCanopies_348 ?_
    refine lv_if_gt (tgt := 400) hx hb dL_areCanopies_349 (by decide) (fun h => absurd h (share_ok hP).2) (fun b12 => ?_)
    refine lv_aload_n hx hb dL_areCanopies_352 rfl (lv_at hl 5 rfl) ?_
    refine zlW (As := [.ref N]) (rest := []) X hml C0 hA0 hG (ctL_meanDrops l hl0 D cy rf N (zxb N 0 0) (zxa N) σ (zxd N) δ  hP.zv (none_0 hP)) zmL_meanDrops (by decide) m_1199 ⟨(Nat.le_of_ble_eq_true rfl), (Nat.le_of_ble_eq_true rfl)⟩ ⟨by show cells + 1 + 1 + 1 + 1 ≤ 8450; omega, by show slots + 6 + 6 + 6 + 6 ≤ 50700; omega⟩ rfl hl.1 rfl (Nat.le_of_ble_eq_true rfl) dL_areCanopies_353 hS (fun q h => h.elim) (fun H locs hG hsz hfr hS => ?_)
    replace hDp := va_at.kept hDp (hfr dp (va_at.lt hDp) (fun z => z))
    replace hPk := va_at.kept hPk (hfr pq (va_at.lt hPk) (fun z => z))
    refine lv_dconst0 hx hb dL_areCanopies_356 ?_
    refine lv_dcmp hx hb dL_areCanopies_357 ?_
    refine lv_if_lt (tgt := 400) hx hb dL_areCanopies_358 (by decide) (fun h => absurd h (mean_ok hP (by omega))) (fun b13 => ?_)
    refine lv_iload hx hb dL_areCanopies_361 (lv_at hl 0 rfl) ?_
    refine lv_bipush (v := (-75)) hx hb dL_areCanopies_363 (by decide) ?_
    refine lv_icmp_eq (tgt := 396) hx hb dL_areCanopies_365 (by decide) (fun h => absurd h (fun z => absurd (show nI cx < 0 by rw [z]; decide) (nI_pos (by omega)))) (fun b14 => ?_)
    refine lv_iload hx hb dL_areCanopies_368 (lv_at hl 0 rfl) ?_
    refine lv_iconst (v := 2) hx hb dL_areCanopies_370 (by decide) ?_
    refine lv_irem hx hb dL_areCanopies_371 (by decide) ?_
    rw [show ((nI cx) - (nI cx) / 2 * 2 : Int32) = 1 from ((show _ = nI (cx % 2) from pk_rem (d := 2) (by omega) (by decide) (by decide)).trans (congrArg nI ex2))]
    refine lv_iconst (v := 1) hx hb dL_areCanopies_372 (by decide) ?_
    refine lv_icmp_ne (tgt := 400) hx hb dL_areCanopies_373 (by decide) (fun h => absurd h (by decide)) (fun _ => ?_)
    refine lv_aload_n hx hb dL_areCanopies_376 rfl (lv_at hl 5 rfl) ?_
    refine lv_iload hx hb dL_areCanopies_377 (lv_at hl 0 rfl) ?_
    refine zlW (As := [.ref N, .int (nI cx)]) (rest := []) X hml C0 hA0 hG (ctL_stateOf l hl0 D cy rf N (zxb N 0 0) (zxa N) σ (zxd N) δ (nI cx) hP.zv (ra_ch hP _)) zmL_stateOf (by decide) m_846 ⟨(Nat.le_of_ble_eq_true rfl), (Nat.le_of_ble_eq_true rfl)⟩ ⟨by show cells + 1 + 1 + 1 + 1 + 1 ≤ 8450; omega, by show slots + 6 + 6 + 6 + 6 + 6 ≤ 50700; omega⟩ rfl hl.1 rfl (Nat.le_of_ble_eq_true rfl) dL_areCanopies_379 hS (fun q h => h.elim) (fun H locs hG hsz hfr hS => ?_)
    replace hDp := va_at.kept hDp (hfr dp (va_at.lt hDp) (fun z => z))
    replace hPk := va_at.kept hPk (hfr pq (va_at.lt hPk) (fun z => z))
    rw [ra_st hP hcx]
    refine lv_bipush (v := 107) hx hb dL_areCanopies_382 (by decide) ?_
    refine lv_icmp_ne (tgt := 400) hx hb dL_areCanopies_384 (by decide) (fun h => absurd h (not_not_intro ex3)) (fun b16 => ?_)
    refine lv_aload_n hx hb dL_areCanopies_387 rfl (lv_at hl 5 rfl) ?_
    refine lv_iload hx hb dL_areCanopies_388 (lv_at hl 0 rfl) ?_
    refine zlW (As := [.ref N, .int (nI cx)]) (rest := []) X hml C0 hA0 hG (ctL_isOut l hl0 D cy rf N (zxb N 0 0) (zxa N) σ (zxd N) δ (nI cx) hP.zv) zmL_isOut (by decide) m_890 ⟨(Nat.le_of_ble_eq_true rfl), (Nat.le_of_ble_eq_true rfl)⟩ ⟨by show cells + 1 + 1 + 1 + 1 + 1 + 1 ≤ 8450; omega, by show slots + 6 + 6 + 6 + 6 + 6 + 6 ≤ 50700; omega⟩ rfl hl.1 rfl (Nat.le_of_ble_eq_true rfl) dL_areCanopies_390 hS (fun q h => h.elim) (fun H locs hG hsz hfr hS => ?_)
    replace hDp := va_at.kept hDp (hfr dp (va_at.lt hDp) (fun z => z))
    replace hPk := va_at.kept hPk (hfr pq (va_at.lt hPk) (fun z => z))
    rw [ra_ou hP hcx]
    rw [ex4]
    refine zb_ne (tgt := 400) hx hb dL_areCanopies_393 (by decide) (fun h => absurd h (by decide)) (fun _ => ?_)
    refine lv_iconst (v := 1) hx hb dL_areCanopies_396 (by decide) ?_
    refine lv_goto (tgt := 401) hx hb dL_areCanopies_397 (by decide) ?_
    exact zo_z (b := true) hx hb hr hlocks rfl hG hS (by omega) (by omega) dL_areCanopies_401
theorem zmL_areCanopies : zmS yL_areCanopies RL cL_areCanopies 11 (some .boolean) 3 := ⟨m_1031, m_0, m_1032, rfl, by decide, by decide, by decide +kernel⟩
set_option maxRecDepth 100000 in
set_option maxHeartbeats 4000000 in
theorem ctL_areCanopies (l : Launch) (hl0 : l.stackTraces = false) (D : va_G) (cy : Nat → ClassId) (rf : Nat → Nat) (N b L : Nat) (xs : Nat → Int32) (ak av : Nat → Nat) (dp pq : Nat) {K bb : Nat} {V : Nat → Int64} {σ δ μ τ μ0 : zS} (hP : zP 4 8 3 K bb V σ δ μ τ) (hK : K ≤ 504) (hRD : RD 1 μ0 μ) : Met l yL_areCanopies (zw yL_areCanopies cL_areCanopies 11 (some .boolean)) (zrx 10 8450 50700) (va_Pc [.ref N, .ref pq, .ref dp] (zBL D cy rf N b L xs ak av (fun H => zSA D cy N (zxb N 0 0) (zxa N) σ (zxd N) δ H ∧ zDp D cy dp V H ∧ zPk D cy pq (lpq μ0 8) H))) (zqM (some (.int (bI true))) (zSA D cy N (zxb N 0 0) (zxa N) σ (zxd N) δ) (fun _ => False)) 8450 50700 (fun _ => False) := by
  refine zmetM (by decide) rfl (Nat.le_of_ble_eq_true rfl) rfl (fun p e s m below meth c ls X hml hr hlocks hv hl => ?_)
  obtain ⟨C0, hG, hDp, hPk⟩ := zBL.cx hv
  obtain ⟨hx, hb, -, -⟩ := id X
  have hl : lv_has ls 11 [(0, .ref N), (1, .ref pq), (2, .ref dp)] := hl
  have hS : va_S (fun _ : Nat => False) s.heap s.heap [] := va_S.rf
  refine lv_iconst (v := 1) hx hb dL_areCanopies_0 (by decide) ?_
  refine lv_istore_n (lv' := [(3, .int 1), (0, .ref N), (1, .ref pq), (2, .ref dp)]) hx hb dL_areCanopies_1 rfl hl (by decide) rfl (fun ls hl => ?_)
  refine lv_lconst (v := 0) hx hb dL_areCanopies_2 rfl ?_
  refine lv_lstore (lv' := [(4, .long 0), (3, .int 1), (0, .ref N), (1, .ref pq), (2, .ref dp)]) hx hb dL_areCanopies_3 hl (by decide) rfl (fun ls hl => ?_)
  refine lv_iconst (v := 0) hx hb dL_areCanopies_5 (by decide) ?_
  refine lv_istore (lv' := [(6, .int 0), (4, .long 0), (3, .int 1), (0, .ref N), (1, .ref pq), (2, .ref dp)]) hx hb dL_areCanopies_6 hl (by decide) rfl (fun ls hl => ?_)
  refine lv_iconst (v := 0) hx hb dL_areCanopies_8 (by decide) ?_
  refine lv_istore (lv' := [(7, .int 0), (6, .int 0), (4, .long 0), (3, .int 1), (0, .ref N), (1, .ref pq), (2, .ref dp)]) hx hb dL_areCanopies_9 hl (by decide) rfl (fun ls hl => ?_)
  exact zcn_out X hml hr hlocks hl0 C0 hP hK hRD (fun H locs cells slots ls hG hDp hPk hS hl hcl hsl => zcn_305 X hml hr hlocks hl0 C0 hP hK hG hDp hPk hS hl hcl hsl) 8 0 rfl s.heap [] 0 0 ls hG hDp hPk hS (show lv_has ls 11 [(7, .int (nI 0)), (6, .int (nI (lpk μ 0))), (4, .long (lheld V μ 0)), (3, .int 1), (0, .ref N), (1, .ref pq), (2, .ref dp)] from by rw [show lpk μ 0 = 0 from rfl, show lheld V μ 0 = 0 from rfl]; exact lv_sub hl [0, 1, 2, 3, 4, 5, 6] rfl) (Nat.le_refl _) (Nat.le_refl _)
end ZCN
