theorem zmX9_isSound : zmV yX9_isSound RX9 cX9_isSound 2 (some .boolean) 0 := ⟨m_326, m_327, m_1, m_328, rfl, by decide, by decide, by decide +kernel⟩
/-- `again`, once the first k rows of the diary are done in it -/
def k_rep (ρ δ : zS) : Nat → zS
  | 0 => f_X5_clear ρ
  | k + 1 => k_rpf δ (k_rep ρ δ k) k
/-- a method's start, where the statics lie outside of a region -/
def zBA (D : va_G) (cy : Nat → ClassId) (rf : Nat → Nat) (A : Nat → Prop) (G : Heap → Prop) : State → Prop := fun U => zK D cy U ∧ zE rf A U U.heap ∧ G U.heap
def zSS (D : va_G) (cy : Nat → ClassId) (sb : Nat) (ad : Nat → Nat → Nat) (σ : zS) (ad1 : Nat → Nat → Nat) (ρ : zS) (adD : Nat → Nat → Nat) (δ : zS) (H : Heap) : Prop := zO D sb (ad 0 0) (ad1 0 0) (adD 20 0) H ∧ zW D cy ad zsL σ H ∧ zW D cy ad1 zsL ρ H ∧ zW D cy adD zsD δ H
theorem zSS.kept {D : va_G} {cy : Nat → ClassId} {sb : Nat} {ad ad1 adD : Nat → Nat → Nat} {σ ρ ρ1 δ : zS} {H H1 : Heap} (h : zSS D cy sb ad σ ad1 ρ adD δ H) (hW : zW D cy ad1 zsL ρ1 H1) (hd : (∀ q, zrg ad1 zsL q → ¬ zrg ad zsL q) ∧ (∀ q, zrg ad1 zsL q → ¬ zrg adD zsD q) ∧ ¬ zrg ad1 zsL sb) (hk : ∀ q, q < H.size → ¬ zrg ad1 zsL q → H1[q]? = H[q]?) : zSS D cy sb ad σ ad1 ρ1 adD δ H1 :=
  ⟨zO.kept h.1 (fun hq => hk _ hq hd.2.2), zW.kept h.2.1 (fun q hq => hk q (h.2.1.lt hq) (fun z => hd.1 q z hq)), hW, zW.kept h.2.2.2 (fun q hq => hk q (h.2.2.2.lt hq) (fun z => hd.2.1 q z hq))⟩
set_option maxRecDepth 100000 in
set_option maxHeartbeats 4000000 in
theorem ctX9_isSound (l : Launch) (D : va_G) (cy : Nat → ClassId) (rf : Nat → Nat) (sb : Nat) (ad : Nat → Nat → Nat) (σ : zS) (ad1 : Nat → Nat → Nat) (ρ : zS) (adD : Nat → Nat → Nat) (δ : zS) (hj : zinj ad1 zsL) (hd : (∀ q, zrg ad1 zsL q → ¬ zrg ad zsL q) ∧ (∀ q, zrg ad1 zsL q → ¬ zrg adD zsD q) ∧ ¬ zrg ad1 zsL sb) (hc : zbd δ 200 512) (hrep : ∀ k, k ≤ zn δ 200 → zV (k_rep ρ δ k)) (hrow : ∀ k, k < zn δ 200 → (∃ n, n < 20 ∧ k_row δ k 0 = nI n) ∧ k_rref δ (k_rep ρ δ k) k = 0) (hL : lkA σ (k_rep ρ δ (zn δ 200))) (hV : zV σ) : Met l yX9_isSound (zw yX9_isSound cX9_isSound 2 (some .boolean)) (zrm 8) (va_Pc [.ref sb] (zBA D cy rf (zrg ad1 zsL) (zSS D cy sb ad σ ad1 ρ adD δ))) (zqM (some (.int (bI true))) (zSS D cy sb ad σ ad1 (k_rep ρ δ (zn δ 200)) adD δ) (zrg ad1 zsL)) 0 0 (zrg ad1 zsL) := by
  refine zmet (by decide) rfl (Nat.le_of_ble_eq_true rfl) rfl (fun p e s m below meth c ls X hml hr hlocks hv hl => ?_)
  obtain ⟨hK, hE, hG⟩ := hv
  obtain ⟨hx, hb, -, -⟩ := id X
  have hl : lv_has ls 2 [(0, .ref sb)] := hl
  have hS : va_S (zrg ad1 zsL) s.heap s.heap [] := va_S.rf
  generalize hAe : zrg ad1 zsL = A at hS ⊢
  have hA : ∀ q, zrg ad1 zsL q → A q := fun q h => by rw [← hAe]; exact h
  rw [hAe] at hE
  have hN := hc.2
  have loop9 : ∀ (n k : Nat) (H : Heap) (locs : List Loc) (ls : Array Slot), lv_has ls 2 [(1, .int (nI k)), (0, .ref sb)] → zn δ 200 + 1 - k < n → k ≤ zn δ 200 → zSS D cy sb ad σ ad1 (k_rep ρ δ k) adD δ H → va_S A s.heap H locs → zE rf A s H → W p l e (zrm 8) s m ([.ref sb] : List Value).toArray below meth c H locs 0 0 (MQ below (zqM (some (.int (bI true))) (zSS D cy sb ad σ ad1 (k_rep ρ δ (zn δ 200)) adD δ) A) ([.ref sb] : List Value).toArray s 0 0 A) (F0 m 9 ls []) := by
    intro n
    induction n with
    | zero => intro k H locs ls hl hm hk hG hS hE; exact absurd hm (Nat.not_lt_zero _)
    | succ n ih =>
      intro k H locs ls hl hm hk hG hS hE
      obtain ⟨hO, hW, hW1, hWD⟩ := id hG
      refine lv_iload_n hx hb dX9_isSound_9 rfl (lv_at hl 0 rfl) ?_
      refine lv_aload_n hx hb dX9_isSound_10 rfl (lv_at hl 1 rfl) ?_
      refine zg7_2 X hK hO m_313 dX9_isSound_11 ?_
      refine zg2_0 X hK hWD m_304 dX9_isSound_14 ?_
      refine lv_icmp_ge (tgt := 43) hx hb dX9_isSound_17 (by decide) (fun b1 => ?_) (fun b1 => ?_)
      · have hke : k = zn δ 200 := zge_of hc (by decide) hk b1
        subst hke
        refine lv_aload_n hx hb dX9_isSound_43 rfl (lv_at hl 1 rfl) ?_
        refine zg7_0 X hK hO m_311 dX9_isSound_44 ?_
        refine lv_aload_n hx hb dX9_isSound_47 rfl (lv_at hl 1 rfl) ?_
        refine zg7_1 X hK hO m_312 dX9_isSound_48 ?_
        refine zcallRV (As := [.ref (ad1 0 0)]) (rest := []) X hml hK ⟨hW, hW1⟩ (ctX5_isLike l D cy ad σ ad1 (k_rep ρ δ (zn δ 200)) hL hV (hrep _ (Nat.le_refl _))) zmX5_isLike (by decide) m_585 (zrecv hK (hW 0 0 rfl (by decide)) rfl) ⟨Nat.le_of_ble_eq_true rfl, Nat.le_of_ble_eq_true rfl⟩ ⟨Nat.zero_le _, Nat.zero_le _⟩ rfl hl.1 rfl (Nat.le_of_ble_eq_true rfl) dX9_isSound_51 ?_
        exact zm_z hx hb hr hlocks rfl hG hS dX9_isSound_54
      · have hlt : k < zn δ 200 := zlt_of hc (by decide) hk b1
        obtain ⟨⟨j, hj20, hrj⟩, hz⟩ := hrow k hlt
        refine lv_aload_n hx hb dX9_isSound_20 rfl (lv_at hl 1 rfl) ?_
        refine zg7_2 X hK hO m_313 dX9_isSound_21 ?_
        refine lv_iload_n hx hb dX9_isSound_24 rfl (lv_at hl 0 rfl) ?_
        refine lv_aload_n hx hb dX9_isSound_25 rfl (lv_at hl 1 rfl) ?_
        refine zg7_1 X hK hO m_312 dX9_isSound_26 ?_
        refine zcallMVe (As := [.int (nI k), .ref (ad1 0 0)]) (rest := []) X hml hK hE ⟨hW1, hWD⟩ (ctX2_repeat l D cy rf ad1 (k_rep ρ δ k) adD δ hj k (by omega) hlt hc (hrep k hk) j hj20 hrj) zmX2_repeat (by decide) m_333 (zrecv hK (hWD 20 0 rfl (by decide)) rfl) ⟨Nat.le_of_ble_eq_true rfl, Nat.le_of_ble_eq_true rfl⟩ ⟨Nat.zero_le _, Nat.zero_le _⟩ rfl hl.1 rfl (Nat.le_of_ble_eq_true rfl) dX9_isSound_29 hS hA (fun H1 locs1 hW9 hsz hfr hS1 => ?_)
        have hre : r_X2_repeat (k_rep ρ δ k) δ k = true := by rw [r_X2_repeat, hz]; rfl
        have hfe : f_X2_repeat (k_rep ρ δ k) δ k = k_rep ρ δ (k + 1) := by rw [f_X2_repeat, if_pos hz]; rfl
        rw [hre]
        rw [hfe] at hW9
        refine zb_ne (tgt := 37) hx hb dX9_isSound_32 (by decide) (fun _ => ?_) (fun h => absurd h (by decide))
        refine lv_iinc (v := nI (k + 1)) (lv' := [(1, .int (nI (k + 1))), (0, .ref sb)]) hx hb dX9_isSound_37 hl (k := 0) rfl (nI_1 k) (by decide) rfl (fun ls hl => ?_)
        refine lv_goto (tgt := 9) hx hb dX9_isSound_40 (by decide) ?_
        exact ih (k + 1) H1 locs1 ls hl (by omega) hlt (zSS.kept hG hW9 hd hfr) hS1 (zE.kept hE (fun a ha hna => hfr a ha (fun z => hna (hA a z))))
  obtain ⟨hO, hW, hW1, hWD⟩ := id hG
  refine lv_aload_n hx hb dX9_isSound_0 rfl (lv_at hl 0 rfl) ?_
  refine zg7_1 X hK hO m_312 dX9_isSound_1 ?_
  refine zcallMV (As := []) (rest := []) X hml hK hW1 (ctX5_clear l D cy ad1 ρ hj) zmX5_clear (by decide) m_329 (zrecv hK (hW1 0 0 rfl (by decide)) rfl) ⟨Nat.le_of_ble_eq_true rfl, Nat.le_of_ble_eq_true rfl⟩ ⟨Nat.zero_le _, Nat.zero_le _⟩ rfl hl.1 rfl (Nat.le_of_ble_eq_true rfl) dX9_isSound_4 hS hA (fun H locs hW9 hsz hfr hS => ?_)
  refine lv_iconst (v := 0) hx hb dX9_isSound_7 (by decide) ?_
  refine lv_istore_n (lv' := [(1, .int 0), (0, .ref sb)]) hx hb dX9_isSound_8 rfl hl (by decide) rfl (fun ls hl => ?_)
  exact loop9 _ 0 H locs ls hl (Nat.lt_succ_self _) (Nat.zero_le _) (zSS.kept hG hW9 hd hfr) hS (zE.kept hE (fun a ha hna => hfr a ha (fun z => hna (hA a z))))
